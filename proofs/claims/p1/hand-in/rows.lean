section
/-! zx: runs of the code over numbers that are only known between two bounds. Here: numbers, lists -/
abbrev zx_L : Type := List (Nat × Int) × Int
abbrev zx_V : Type := zx_L ⊕ ((List Nat × Bool) ⊕ Bool)
abbrev zx_S : Type := zx_V ⊕ (Int × Int)
abbrev zx_C : Type := (Nat × List zx_S) ⊕ ((Nat × Nat × Bool × List zx_S) ⊕ Nat)
abbrev zx_G : Type := List (Int × Int)
def zx_F2 {α β : Type} (R : α → β → Prop) : List α → List β → Prop
  | [], [] => True
  | a :: l, b :: m => R a b ∧ zx_F2 R l m
  | [], _ :: _ => False
  | _ :: _, [] => False
theorem zx_F2_len {α β : Type} {R : α → β → Prop} : ∀ {l : List α} {m : List β}, zx_F2 R l m → l.length = m.length
  | [], [], _ => rfl
  | _ :: _, _ :: _, h => by rw [List.length_cons, List.length_cons, zx_F2_len h.2]
  | [], _ :: _, h => h.elim
  | _ :: _, [], h => h.elim
theorem zx_F2_get {α β : Type} {R : α → β → Prop} : ∀ {l : List α} {m : List β} {i : Nat} {a : α}, zx_F2 R l m → l[i]? = some a → ∃ b, m[i]? = some b ∧ R a b
  | a0 :: l, b0 :: m, 0, a, h, hi => ⟨b0, rfl, by cases hi; exact h.1⟩
  | a0 :: l, b0 :: m, i + 1, a, h, hi => by
    obtain ⟨b, h1, h2⟩ := zx_F2_get (i := i) h.2 (by simpa using hi)
    exact ⟨b, by simpa using h1, h2⟩
  | [], _, _, _, _, hi => by simp at hi
  | _ :: _, [], _, _, h, _ => h.elim
theorem zx_F2_set {α β : Type} {R : α → β → Prop} {a : α} {b : β} (hab : R a b) : ∀ {l : List α} {m : List β} (i : Nat), zx_F2 R l m → zx_F2 R (l.set i a) (m.set i b)
  | [], [], _, _ => trivial
  | _ :: _, _ :: _, 0, h => ⟨hab, h.2⟩
  | _ :: _, _ :: _, i + 1, h => ⟨h.1, zx_F2_set hab i h.2⟩
  | [], _ :: _, _, h => h.elim
  | _ :: _, [], _, h => h.elim
theorem zx_F2_imp {α β : Type} {R S : α → β → Prop} (hRS : ∀ a b, R a b → S a b) : ∀ {l : List α} {m : List β}, zx_F2 R l m → zx_F2 S l m
  | [], [], _ => trivial
  | _ :: _, _ :: _, h => ⟨hRS _ _ h.1, zx_F2_imp hRS h.2⟩
  | [], _ :: _, h => h.elim
  | _ :: _, [], h => h.elim
theorem zx_F2_app {α β : Type} {R : α → β → Prop} {l' : List α} {m' : List β} (h' : zx_F2 R l' m') : ∀ {l : List α} {m : List β}, zx_F2 R l m → zx_F2 R (l ++ l') (m ++ m')
  | [], [], _ => h'
  | _ :: _, _ :: _, h => ⟨h.1, zx_F2_app h' h.2⟩
  | [], _ :: _, h => h.elim
  | _ :: _, [], h => h.elim
theorem zx_F2_filter {α β : Type} {R : α → β → Prop} {f : α → Bool} {g : β → Bool} (hfg : ∀ a b, R a b → f a = g b) : ∀ {l : List α} {m : List β}, zx_F2 R l m → zx_F2 R (l.filter f) (m.filter g)
  | [], [], _ => trivial
  | a :: l, b :: m, h => by
    rw [List.filter_cons, List.filter_cons, ← hfg a b h.1]
    by_cases hf : f a = true
    · rw [if_pos hf, if_pos hf]; exact ⟨h.1, zx_F2_filter hfg h.2⟩
    · rw [if_neg hf, if_neg hf]; exact zx_F2_filter hfg h.2
  | [], _ :: _, h => h.elim
  | _ :: _, [], h => h.elim
theorem zx_F2_take {α β : Type} {R : α → β → Prop} : ∀ (n : Nat) {l : List α} {m : List β}, zx_F2 R l m → zx_F2 R (l.take n) (m.take n) ∧ zx_F2 R (l.drop n) (m.drop n)
  | 0, _, _, h => ⟨trivial, h⟩
  | n + 1, [], [], _ => ⟨trivial, trivial⟩
  | n + 1, _ :: _, _ :: _, h => ⟨⟨h.1, (zx_F2_take n h.2).1⟩, (zx_F2_take n h.2).2⟩
  | _ + 1, [], _ :: _, h => h.elim
  | _ + 1, _ :: _, [], h => h.elim
theorem zx_F2_rev {α β : Type} {R : α → β → Prop} : ∀ {l : List α} {m : List β}, zx_F2 R l m → zx_F2 R l.reverse m.reverse
  | [], [], _ => trivial
  | a :: l, b :: m, h => by
    rw [List.reverse_cons, List.reverse_cons]
    exact zx_F2_app (l' := [a]) (m' := [b]) ⟨h.1, trivial⟩ (zx_F2_rev h.2)
  | [], _ :: _, h => h.elim
  | _ :: _, [], h => h.elim
theorem zx_F2_rep {α β : Type} {R : α → β → Prop} {a : α} {b : β} (h : R a b) : ∀ n : Nat, zx_F2 R (List.replicate n a) (List.replicate n b)
  | 0 => trivial
  | n + 1 => ⟨h, zx_F2_rep h n⟩
/-! a sum of unknowns -/
def zx_evl (ρ : List Int) : List (Nat × Int) → Option Int
  | [] => some 0
  | q :: r => match ρ[q.1]?, zx_evl ρ r with
    | some v, some w => some (q.2 * v + w)
    | some _, none => none
    | none, _ => none
def zx_ev (ρ : List Int) (e : zx_L) : Option Int := (zx_evl ρ e.1).map (fun w => w + e.2)
theorem zx_evl_cons {ρ : List Int} {q : Nat × Int} {r : List (Nat × Int)} {w : Int} : zx_evl ρ (q :: r) = some w ↔ ∃ v u, ρ[q.1]? = some v ∧ zx_evl ρ r = some u ∧ w = q.2 * v + u := by
  rw [zx_evl]
  constructor
  · intro h
    split at h
    · rename_i v u h1 h2
      exact ⟨v, u, h1, h2, (Option.some.inj h).symm⟩
    · cases h
    · cases h
  · rintro ⟨v, u, h1, h2, h3⟩
    rw [h1, h2, h3]
theorem zx_ev_iff {ρ : List Int} {e : zx_L} {w : Int} : zx_ev ρ e = some w ↔ ∃ u, zx_evl ρ e.1 = some u ∧ w = u + e.2 := by
  rw [zx_ev]
  constructor
  · intro h
    obtain ⟨u, h1, h2⟩ := Option.map_eq_some_iff.mp h
    exact ⟨u, h1, h2.symm⟩
  · rintro ⟨u, h1, h2⟩
    rw [h1, h2]; rfl
theorem zx_evl_app {ρ r : List Int} : ∀ {l : List (Nat × Int)} {w : Int}, zx_evl ρ l = some w → zx_evl (ρ ++ r) l = some w
  | [], _, h => h
  | q :: t, w, h => by
    obtain ⟨v, u, h1, h2, h3⟩ := zx_evl_cons.mp h
    refine zx_evl_cons.mpr ⟨v, u, ?_, zx_evl_app h2, h3⟩
    rw [List.getElem?_append_left (List.getElem?_eq_some_iff.mp h1).1]; exact h1
theorem zx_ev_app {ρ r : List Int} {e : zx_L} {w : Int} (h : zx_ev ρ e = some w) : zx_ev (ρ ++ r) e = some w := by
  obtain ⟨u, h1, h2⟩ := zx_ev_iff.mp h
  exact zx_ev_iff.mpr ⟨u, zx_evl_app h1, h2⟩
def zx_ins (x : Nat) (c : Int) : List (Nat × Int) → List (Nat × Int)
  | [] => [(x, c)]
  | q :: r => if q.1 = x then (if q.2 + c = 0 then r else (x, q.2 + c) :: r) else q :: zx_ins x c r
theorem zx_ins_ev {ρ : List Int} {x : Nat} {c v : Int} (hv : ρ[x]? = some v) : ∀ {l : List (Nat × Int)} {w : Int}, zx_evl ρ l = some w → zx_evl ρ (zx_ins x c l) = some (c * v + w)
  | [], w, h => by
    rw [zx_ins]
    exact zx_evl_cons.mpr ⟨v, w, hv, h, rfl⟩
  | q :: r, w, h => by
    obtain ⟨v', u, h1, h2, h3⟩ := zx_evl_cons.mp h
    rw [zx_ins]
    by_cases hq : q.1 = x
    · rw [if_pos hq]
      have hvv : v' = v := by rw [hq, hv] at h1; exact (Option.some.inj h1).symm
      subst hvv
      by_cases hz : q.2 + c = 0
      · rw [if_pos hz, h2, h3]
        have : c * v' + (q.2 * v' + u) = (q.2 + c) * v' + u := by rw [Int.add_mul]; omega
        rw [this, hz]; simp
      · rw [if_neg hz]
        exact zx_evl_cons.mpr ⟨v', u, hv, h2, by rw [h3, Int.add_mul]; omega⟩
    · rw [if_neg hq]
      exact zx_evl_cons.mpr ⟨v', c * v + u, h1, zx_ins_ev hv h2, by rw [h3]; omega⟩
def zx_adds : List (Nat × Int) → List (Nat × Int) → List (Nat × Int)
  | [], b => b
  | q :: r, b => zx_ins q.1 q.2 (zx_adds r b)
theorem zx_adds_ev {ρ : List Int} {b : List (Nat × Int)} {w' : Int} (hb : zx_evl ρ b = some w') : ∀ {a : List (Nat × Int)} {w : Int}, zx_evl ρ a = some w → zx_evl ρ (zx_adds a b) = some (w + w')
  | [], w, h => by cases h; rw [zx_adds, hb]; simp
  | q :: r, w, h => by
    obtain ⟨v, u, h1, h2, h3⟩ := zx_evl_cons.mp h
    rw [zx_adds, zx_ins_ev h1 (zx_adds_ev hb h2), h3]
    congr 1
    omega
def zx_add (e f : zx_L) : zx_L := (zx_adds e.1 f.1, e.2 + f.2)
theorem zx_add_ev {ρ : List Int} {e f : zx_L} {v w : Int} (he : zx_ev ρ e = some v) (hf : zx_ev ρ f = some w) : zx_ev ρ (zx_add e f) = some (v + w) := by
  obtain ⟨u1, h1, h2⟩ := zx_ev_iff.mp he
  obtain ⟨u2, h3, h4⟩ := zx_ev_iff.mp hf
  exact zx_ev_iff.mpr ⟨u1 + u2, zx_adds_ev h3 h1, by rw [h2, h4]; show _ = u1 + u2 + (e.2 + f.2); omega⟩
def zx_scl (c : Int) : List (Nat × Int) → List (Nat × Int)
  | [] => []
  | q :: r => (q.1, c * q.2) :: zx_scl c r
theorem zx_scl_ev {ρ : List Int} (c : Int) : ∀ {a : List (Nat × Int)} {w : Int}, zx_evl ρ a = some w → zx_evl ρ (zx_scl c a) = some (c * w)
  | [], w, h => by cases h; rw [zx_scl, zx_evl]; simp
  | q :: r, w, h => by
    obtain ⟨v, u, h1, h2, h3⟩ := zx_evl_cons.mp h
    rw [zx_scl]
    exact zx_evl_cons.mpr ⟨v, c * u, h1, zx_scl_ev c h2, by rw [h3, Int.mul_add, Int.mul_assoc]⟩
def zx_scale (c : Int) (e : zx_L) : zx_L := if c = 0 then ([], 0) else (zx_scl c e.1, c * e.2)
theorem zx_scale_ev {ρ : List Int} (c : Int) {e : zx_L} {v : Int} (he : zx_ev ρ e = some v) : zx_ev ρ (zx_scale c e) = some (c * v) := by
  obtain ⟨u, h1, h2⟩ := zx_ev_iff.mp he
  rw [zx_scale]
  by_cases hc : c = 0
  · rw [if_pos hc, hc]; exact zx_ev_iff.mpr ⟨0, rfl, by simp⟩
  · rw [if_neg hc]; exact zx_ev_iff.mpr ⟨c * u, zx_scl_ev c h1, by rw [h2, Int.mul_add]⟩
def zx_sub (e f : zx_L) : zx_L := zx_add e (zx_scale (-1) f)
theorem zx_sub_ev {ρ : List Int} {e f : zx_L} {v w : Int} (he : zx_ev ρ e = some v) (hf : zx_ev ρ f = some w) : zx_ev ρ (zx_sub e f) = some (v - w) := by
  have h := zx_add_ev he (zx_scale_ev (-1) hf)
  rw [zx_sub, h]
  congr 1
  omega
def zx_rg (G : zx_G) : List (Nat × Int) → Option (Int × Int)
  | [] => some (0, 0)
  | q :: r => match G[q.1]?, zx_rg G r with
    | some b, some t => if 0 ≤ q.2 then some (q.2 * b.1 + t.1, q.2 * b.2 + t.2) else some (q.2 * b.2 + t.1, q.2 * b.1 + t.2)
    | some _, none => none
    | none, _ => none
def zx_rng (G : zx_G) (e : zx_L) : Option (Int × Int) := match zx_rg G e.1 with
  | some t => some (t.1 + e.2, t.2 + e.2)
  | none => none
def zx_ok (ρ : List Int) (G : zx_G) : Prop := ρ.length = G.length ∧ ∀ (i : Nat) (v : Int) (b : Int × Int), ρ[i]? = some v → G[i]? = some b → b.1 ≤ v ∧ v ≤ b.2
theorem zx_rg_ok {ρ : List Int} {G : zx_G} (hG : zx_ok ρ G) : ∀ {l : List (Nat × Int)} {t : Int × Int} {w : Int}, zx_rg G l = some t → zx_evl ρ l = some w → t.1 ≤ w ∧ w ≤ t.2
  | [], t, w, h, hw => by cases h; cases hw; exact ⟨Int.le_refl _, Int.le_refl _⟩
  | q :: r, t, w, h, hw => by
    obtain ⟨v, u, h1, h2, h3⟩ := zx_evl_cons.mp hw
    rw [zx_rg] at h
    split at h
    · rename_i b t' hb ht
      obtain ⟨k1, k2⟩ := zx_rg_ok hG ht h2
      obtain ⟨g1, g2⟩ := hG.2 _ _ _ h1 hb
      split at h
      · rename_i hq
        cases h
        subst h3
        exact ⟨Int.add_le_add (Int.mul_le_mul_of_nonneg_left g1 hq) k1, Int.add_le_add (Int.mul_le_mul_of_nonneg_left g2 hq) k2⟩
      · rename_i hq
        have hq' : q.2 ≤ 0 := by omega
        cases h
        subst h3
        exact ⟨Int.add_le_add (Int.mul_le_mul_of_nonpos_left hq' g2) k1, Int.add_le_add (Int.mul_le_mul_of_nonpos_left hq' g1) k2⟩
    · cases h
    · cases h
theorem zx_rng_ok {ρ : List Int} {G : zx_G} (hG : zx_ok ρ G) {e : zx_L} {t : Int × Int} {w : Int} (h : zx_rng G e = some t) (hw : zx_ev ρ e = some w) : t.1 ≤ w ∧ w ≤ t.2 := by
  obtain ⟨u, h1, h2⟩ := zx_ev_iff.mp hw
  rw [zx_rng] at h
  split at h
  · rename_i t' ht
    obtain ⟨k1, k2⟩ := zx_rg_ok hG ht h1
    cases h
    subst h2
    exact ⟨by show t'.1 + e.2 ≤ u + e.2; omega, by show u + e.2 ≤ t'.2 + e.2; omega⟩
  · cases h
/-- one more unknown between two bounds -/
theorem zx_ok_push {ρ : List Int} {G : zx_G} (hG : zx_ok ρ G) {v : Int} {b : Int × Int} (h1 : b.1 ≤ v) (h2 : v ≤ b.2) : zx_ok (ρ ++ [v]) (G ++ [b]) := by
  refine ⟨by rw [List.length_append, List.length_append, hG.1]; rfl, fun i x c hx hc => ?_⟩
  by_cases hi : i < ρ.length
  · rw [List.getElem?_append_left hi] at hx
    rw [List.getElem?_append_left (by rw [← hG.1]; exact hi)] at hc
    exact hG.2 i x c hx hc
  · have hl : i < (ρ ++ [v]).length := (List.getElem?_eq_some_iff.mp hx).1
    rw [List.length_append, List.length_singleton] at hl
    have he : i = ρ.length := by omega
    subst he
    rw [List.getElem?_append_right (Nat.le_refl _)] at hx
    rw [hG.1, List.getElem?_append_right (Nat.le_refl _)] at hc
    simp at hx hc
    subst hx; subst hc
    exact ⟨h1, h2⟩
theorem zx_ev_new {ρ : List Int} {G : zx_G} (hG : zx_ok ρ G) (v : Int) : zx_ev (ρ ++ [v]) ([(G.length, 1)], 0) = some v := by
  refine zx_ev_iff.mpr ⟨v, zx_evl_cons.mpr ⟨v, 0, ?_, rfl, by simp⟩, by simp⟩
  show (ρ ++ [v])[G.length]? = some v
  rw [← hG.1]; simp
/-- tighter bounds of one unknown -/
theorem zx_ok_set {ρ : List Int} {G : zx_G} (hG : zx_ok ρ G) {x : Nat} {b : Int × Int} (hb : ∀ v, ρ[x]? = some v → b.1 ≤ v ∧ v ≤ b.2) : zx_ok ρ (G.set x b) := by
  refine ⟨by rw [List.length_set]; exact hG.1, fun i v c hv hc => ?_⟩
  by_cases hi : x = i
  · subst hi
    rw [List.getElem?_set] at hc
    simp only [if_true] at hc
    split at hc
    · cases hc; exact hb v hv
    · cases hc
  · rw [List.getElem?_set, if_neg hi] at hc
    exact hG.2 i v c hv hc
end
section
/-! zx: values, arithmetic, comparisons -/
def zx_ad (ex ad : List Nat) (i : Nat) : Option Nat := if i < 64 then ex[i]? else ad[i - 64]?
def zx_R (b : Nat) (ex : List Nat) (ρ : List Int) (ad : List Nat) (v : zx_V) (x : Value) : Prop := match v with
  | .inl e => ∃ w : Int32, x = .int w ∧ zx_ev ρ e = some w.toInt
  | .inr (.inl r) => (r.2 = true ∧ x = .null) ∨ ∃ i a, i ∈ r.1 ∧ zx_ad ex ad i = some a ∧ x = .ref a
  | .inr (.inr true) => ∃ w : Int64, x = .long w
  | .inr (.inr false) => x = .ref b
theorem zx_ad_app {ex ad q : List Nat} {i a : Nat} (h : zx_ad ex ad i = some a) : zx_ad ex (ad ++ q) i = some a := by
  rw [zx_ad] at h ⊢
  by_cases hi : i < 64
  · rw [if_pos hi] at h ⊢; exact h
  · rw [if_neg hi] at h ⊢
    rw [List.getElem?_append_left (List.getElem?_eq_some_iff.mp h).1]; exact h
theorem zx_R_app {b : Nat} {ex : List Nat} {ρ r : List Int} {ad q : List Nat} {v : zx_V} {x : Value} (h : zx_R b ex ρ ad v x) : zx_R b ex (ρ ++ r) (ad ++ q) v x := by
  rcases v with e | k | k
  · obtain ⟨w, h1, h2⟩ := h
    exact ⟨w, h1, zx_ev_app h2⟩
  · rcases h with h | ⟨i, a, h1, h2, h3⟩
    · exact Or.inl h
    · exact Or.inr ⟨i, a, h1, zx_ad_app h2, h3⟩
  · cases k
    · exact h
    · exact h
theorem zx_R_up {b : Nat} {ex : List Nat} {ρ r : List Int} {ad : List Nat} {v : zx_V} {x : Value} (h : zx_R b ex ρ ad v x) : zx_R b ex (ρ ++ r) ad v x := by
  have h1 := zx_R_app (r := r) (q := []) h
  rwa [List.append_nil] at h1
def zx_cat (v : zx_V) : Nat := match v with
  | .inr (.inr true) => 2
  | _ => 1
theorem zx_R_cat {b : Nat} {ex : List Nat} {ρ : List Int} {ad : List Nat} {v : zx_V} {x : Value} (h : zx_R b ex ρ ad v x) : x.category = zx_cat v := by
  rcases v with e | k | k
  · obtain ⟨w, h1, h2⟩ := h; subst h1; rfl
  · rcases h with ⟨_, h⟩ | ⟨i, a, h1, h2, h3⟩
    · subst h; rfl
    · subst h3; rfl
  · cases k
    · have h1 : x = .ref b := h
      subst h1; rfl
    · obtain ⟨w, h1⟩ := h; subst h1; rfl
def zx_in (t : Int × Int) (lo hi : Int) : Bool := decide (lo ≤ t.1) && decide (t.2 ≤ hi)
theorem zx_in_iff {t : Int × Int} {lo hi : Int} : zx_in t lo hi = true ↔ lo ≤ t.1 ∧ t.2 ≤ hi := by
  rw [zx_in, Bool.and_eq_true, decide_eq_true_iff, decide_eq_true_iff]
def zx_fr (G : zx_G) (lo hi : Int) : zx_G × zx_V := (G ++ [(lo, hi)], .inl ([(G.length, 1)], 0))
abbrev zx_full (G : zx_G) : zx_G × zx_V := zx_fr G (-2147483648) 2147483647
/-- a result: maybe one unknown more, and the value -/
def zx_P (b : Nat) (ex : List Nat) (ρ : List Int) (ad : List Nat) (r : zx_G × zx_V) (x : Value) : Prop := ∃ r2, zx_ok (ρ ++ r2) r.1 ∧ zx_R b ex (ρ ++ r2) ad r.2 x
theorem zx_fr_ok {b : Nat} {ex : List Nat} {ρ : List Int} {ad : List Nat} {G : zx_G} (hG : zx_ok ρ G) {lo hi : Int} {w : Int32} (h1 : lo ≤ w.toInt) (h2 : w.toInt ≤ hi) : zx_P b ex ρ ad (zx_fr G lo hi) (.int w) :=
  ⟨[w.toInt], zx_ok_push hG h1 h2, w, rfl, zx_ev_new hG _⟩
theorem zx_i32 (w : Int32) : -2147483648 ≤ w.toInt ∧ w.toInt ≤ 2147483647 := ⟨w.le_toInt, by have := w.toInt_lt; omega⟩
theorem zx_full_ok {b : Nat} {ex : List Nat} {ρ : List Int} {ad : List Nat} {G : zx_G} (hG : zx_ok ρ G) {w : Int32} : zx_P b ex ρ ad (zx_full G) (.int w) := zx_fr_ok hG (zx_i32 w).1 (zx_i32 w).2
theorem zx_same_ok {b : Nat} {ex : List Nat} {ρ : List Int} {ad : List Nat} {G : zx_G} (hG : zx_ok ρ G) {e : zx_L} {w : Int32} (h : zx_ev ρ e = some w.toInt) : zx_P b ex ρ ad (G, .inl e) (.int w) :=
  ⟨[], by rw [List.append_nil]; exact hG, by rw [List.append_nil]; exact ⟨w, rfl, h⟩⟩
def zx_val (G : zx_G) (e : zx_L) : Option (zx_G × zx_V) := match zx_rng G e with
  | none => none
  | some t => if zx_in t (-2147483648) 2147483647 = true then some (G, .inl e) else some (zx_full G)
theorem zx_val_ok {b : Nat} {ex : List Nat} {ρ : List Int} {ad : List Nat} {G : zx_G} (hG : zx_ok ρ G) {e : zx_L} {v : Int} {w : Int32} {r : zx_G × zx_V} (h : zx_val G e = some r) (hv : zx_ev ρ e = some v) (hw : -2147483648 ≤ v → v ≤ 2147483647 → w.toInt = v) : zx_P b ex ρ ad r (.int w) := by
  rw [zx_val] at h
  split at h
  · cases h
  · rename_i t ht
    obtain ⟨k1, k2⟩ := zx_rng_ok hG ht hv
    split at h
    · rename_i hi
      obtain ⟨g1, g2⟩ := zx_in_iff.mp hi
      cases h
      exact zx_same_ok hG (by rw [hv, hw (by omega) (by omega)])
    · cases h; exact zx_full_ok hG
theorem zx_bm {v : Int} (h1 : -2147483648 ≤ v) (h2 : v ≤ 2147483647) : v.bmod (2 ^ 32) = v := Int.bmod_eq_of_le (by omega) (by omega)
theorem zx_addI (x y : Int32) (h1 : -2147483648 ≤ x.toInt + y.toInt) (h2 : x.toInt + y.toInt ≤ 2147483647) : (x + y).toInt = x.toInt + y.toInt := by rw [Int32.toInt_add, zx_bm h1 h2]
theorem zx_subI (x y : Int32) (h1 : -2147483648 ≤ x.toInt - y.toInt) (h2 : x.toInt - y.toInt ≤ 2147483647) : (x - y).toInt = x.toInt - y.toInt := by rw [Int32.toInt_sub, zx_bm h1 h2]
theorem zx_mulI (x y : Int32) (h1 : -2147483648 ≤ x.toInt * y.toInt) (h2 : x.toInt * y.toInt ≤ 2147483647) : (x * y).toInt = x.toInt * y.toInt := by rw [Int32.toInt_mul, zx_bm h1 h2]
theorem zx_ofI {n : Int} (h1 : -2147483648 ≤ n) (h2 : n ≤ 2147483647) : (Int32.ofInt n).toInt = n := Int32.toInt_ofInt_of_le (by omega) (by omega)
theorem zx_nat {x : Int32} (h : 0 ≤ x.toInt) : x = nI x.toInt.toNat ∧ x.toInt.toNat < 2 ^ 31 := by
  have h2 := (zx_i32 x).2
  refine ⟨Int32.toInt_inj.mp ?_, by omega⟩
  rw [nI_toInt (by omega)]; omega
theorem zx_divI {x y : Int32} (h1 : 0 ≤ x.toInt) (h2 : 0 < y.toInt) : (x / y).toInt = x.toInt / y.toInt := by
  obtain ⟨e1, l1⟩ := zx_nat h1
  obtain ⟨e2, l2⟩ := zx_nat (Int.le_of_lt h2)
  have h3 := pk_div (a := x.toInt.toNat) (d := y.toInt.toNat) l1 (by omega) l2
  rw [← e1, ← e2] at h3
  rw [h3, nI_toInt (Nat.lt_of_le_of_lt (Nat.div_le_self _ _) l1)]
  rw [Int.natCast_ediv, Int.toNat_of_nonneg h1, Int.toNat_of_nonneg (Int.le_of_lt h2)]
theorem zx_remI {x y : Int32} (h1 : 0 ≤ x.toInt) (h2 : 0 < y.toInt) : (x - x / y * y).toInt = x.toInt % y.toInt := by
  obtain ⟨e1, l1⟩ := zx_nat h1
  obtain ⟨e2, l2⟩ := zx_nat (Int.le_of_lt h2)
  have h3 := pk_rem (a := x.toInt.toNat) (d := y.toInt.toNat) l1 (by omega) l2
  rw [← e1, ← e2] at h3
  rw [h3, nI_toInt (Nat.lt_of_le_of_lt (Nat.mod_le _ _) l1)]
  rw [Int.natCast_emod, Int.toNat_of_nonneg h1, Int.toNat_of_nonneg (Int.le_of_lt h2)]
def zx_isc (e : zx_L) : Bool := match e.1 with
  | [] => true
  | _ :: _ => false
theorem zx_isc_ev {ρ : List Int} {e : zx_L} {v : Int} (h : zx_isc e = true) (hv : zx_ev ρ e = some v) : v = e.2 := by
  obtain ⟨u, h1, h2⟩ := zx_ev_iff.mp hv
  rcases e with ⟨l, k⟩
  cases l with
  | nil => cases h1; rw [h2]; simp
  | cons _ _ => cases h
def zx_mul (G : zx_G) (e f : zx_L) : Option (zx_G × zx_V) :=
  if zx_isc e = true then zx_val G (zx_scale e.2 f) else if zx_isc f = true then zx_val G (zx_scale f.2 e) else some (zx_full G)
def zx_div (G : zx_G) (e f : zx_L) : Option (zx_G × zx_V) := match zx_rng G e with
  | none => none
  | some t => if zx_isc f = true && decide (0 < f.2) && decide (0 ≤ t.1) then (if zx_isc e = true then some (G, .inl ([], e.2 / f.2)) else some (zx_fr G (t.1 / f.2) (t.2 / f.2))) else none
def zx_rem (G : zx_G) (e f : zx_L) : Option (zx_G × zx_V) := match zx_rng G e with
  | none => none
  | some t => if zx_isc f = true && decide (0 < f.2) && decide (0 ≤ t.1) then (if zx_isc e = true then some (G, .inl ([], e.2 % f.2)) else some (zx_fr G 0 (f.2 - 1))) else none
def zx_and (G : zx_G) (e f : zx_L) : Option (zx_G × zx_V) :=
  if zx_isc f = true && decide (f.2 = 255 ∨ f.2 = 31 ∨ f.2 = 1 ∨ f.2 = 15) then some (zx_fr G 0 f.2) else some (zx_full G)
section ZXA
variable {b : Nat} {ex : List Nat} {ρ : List Int} {ad : List Nat} {G : zx_G} {e f : zx_L} {x y : Int32} {r : zx_G × zx_V}
theorem zx_mul_ok (hG : zx_ok ρ G) (hx : zx_ev ρ e = some x.toInt) (hy : zx_ev ρ f = some y.toInt) (h : zx_mul G e f = some r) : zx_P b ex ρ ad r (.int (x * y)) := by
  rw [zx_mul] at h
  split at h
  · rename_i hc
    have h1 := zx_isc_ev hc hx
    refine zx_val_ok hG h (zx_scale_ev e.2 hy) (fun g1 g2 => ?_)
    rw [← h1] at g1 g2 ⊢
    exact zx_mulI x y g1 g2
  · split at h
    · rename_i hc
      have h1 := zx_isc_ev hc hy
      refine zx_val_ok hG h (zx_scale_ev f.2 hx) (fun g1 g2 => ?_)
      rw [← h1, Int.mul_comm] at g1 g2 ⊢
      exact zx_mulI x y g1 g2
    · cases h; exact zx_full_ok hG
theorem zx_div_ok (hG : zx_ok ρ G) (hx : zx_ev ρ e = some x.toInt) (hy : zx_ev ρ f = some y.toInt) (h : zx_div G e f = some r) : ¬ y = 0 ∧ zx_P b ex ρ ad r (.int (x / y)) := by
  rw [zx_div] at h
  split at h
  · cases h
  · rename_i t ht
    split at h
    · rename_i hc
      simp only [Bool.and_eq_true, decide_eq_true_iff] at hc
      obtain ⟨⟨h1, h2⟩, h3⟩ := hc
      have k := zx_isc_ev h1 hy
      obtain ⟨g1, g2⟩ := zx_rng_ok hG ht hx
      have hx0 : 0 ≤ x.toInt := by omega
      have hy0 : 0 < y.toInt := by omega
      refine ⟨fun q => by rw [q] at hy0; exact absurd hy0 (by decide), ?_⟩
      split at h
      · rename_i h4
        cases h
        refine zx_same_ok hG ?_
        rw [zx_divI hx0 hy0, k, zx_isc_ev h4 hx]
        exact zx_ev_iff.mpr ⟨0, rfl, by simp⟩
      · cases h
        rw [← k]
        exact zx_fr_ok hG (by rw [zx_divI hx0 hy0]; exact Int.ediv_le_ediv hy0 g1) (by rw [zx_divI hx0 hy0]; exact Int.ediv_le_ediv hy0 g2)
    · cases h
theorem zx_rem_ok (hG : zx_ok ρ G) (hx : zx_ev ρ e = some x.toInt) (hy : zx_ev ρ f = some y.toInt) (h : zx_rem G e f = some r) : ¬ y = 0 ∧ zx_P b ex ρ ad r (.int (x - x / y * y)) := by
  rw [zx_rem] at h
  split at h
  · cases h
  · rename_i t ht
    split at h
    · rename_i hc
      simp only [Bool.and_eq_true, decide_eq_true_iff] at hc
      obtain ⟨⟨h1, h2⟩, h3⟩ := hc
      have k := zx_isc_ev h1 hy
      obtain ⟨g1, g2⟩ := zx_rng_ok hG ht hx
      have hx0 : 0 ≤ x.toInt := by omega
      have hy0 : 0 < y.toInt := by omega
      refine ⟨fun q => by rw [q] at hy0; exact absurd hy0 (by decide), ?_⟩
      split at h
      · rename_i h4
        cases h
        refine zx_same_ok hG ?_
        rw [zx_remI hx0 hy0, k, zx_isc_ev h4 hx]
        exact zx_ev_iff.mpr ⟨0, rfl, by simp⟩
      · cases h
        rw [← k]
        exact zx_fr_ok hG (by rw [zx_remI hx0 hy0]; exact Int.emod_nonneg _ (by omega)) (by rw [zx_remI hx0 hy0]; have := Int.emod_lt_of_pos x.toInt hy0; omega)
    · cases h
theorem zx_andB (x m : Int32) (k : Nat) (hk : k ≤ 30) (hm : m.toBitVec.toNat = 2 ^ k - 1) : 0 ≤ (x &&& m).toInt ∧ (x &&& m).toInt ≤ 2 ^ k - 1 := by
  obtain ⟨j, h1, h2⟩ := pk_andE x k hm
  have h3 : 2 ^ k ≤ 2 ^ 30 := Nat.pow_le_pow_right (by decide) hk
  rw [h2, nI_toInt (by omega)]
  have h4 : ((2 ^ k : Nat) : Int) = (2 : Int) ^ k := by push_cast; rfl
  omega
theorem zx_and_ok (hG : zx_ok ρ G) (hy : zx_ev ρ f = some y.toInt) (h : zx_and G e f = some r) : zx_P b ex ρ ad r (.int (x &&& y)) := by
  rw [zx_and] at h
  split at h
  · rename_i hc
    simp only [Bool.and_eq_true, decide_eq_true_iff] at hc
    obtain ⟨h1, h2⟩ := hc
    have k := zx_isc_ev h1 hy
    cases h
    rw [← k] at h2 ⊢
    rcases h2 with q | q | q | q
    · have hy2 : y = 255 := Int32.toInt_inj.mp q
      subst hy2
      have h3 := zx_andB x 255 8 (by decide) (by decide)
      exact zx_fr_ok hG h3.1 h3.2
    · have hy2 : y = 31 := Int32.toInt_inj.mp q
      subst hy2
      have h3 := zx_andB x 31 5 (by decide) (by decide)
      exact zx_fr_ok hG h3.1 h3.2
    · have hy2 : y = 1 := Int32.toInt_inj.mp q
      subst hy2
      have h3 := zx_andB x 1 1 (by decide) (by decide)
      exact zx_fr_ok hG h3.1 h3.2
    · have hy2 : y = 15 := Int32.toInt_inj.mp q
      subst hy2
      have h3 := zx_andB x 15 4 (by decide) (by decide)
      exact zx_fr_ok hG h3.1 h3.2
  · cases h; exact zx_full_ok hG
end ZXA
/-! comparisons -/
/-- it is known that d ≤ k -/
def zx_le (G : zx_G) (d : zx_L) (k : Int) : zx_G := match d.1 with
  | [q] => match G[q.1]? with
    | none => G
    | some b => if q.2 = 1 then (if k - d.2 < b.2 then G.set q.1 (b.1, k - d.2) else G) else if q.2 = -1 then (if b.1 < d.2 - k then G.set q.1 (d.2 - k, b.2) else G) else G
  | _ => G
theorem zx_ev1 {ρ : List Int} {q : Nat × Int} {c v : Int} (h : zx_ev ρ ([q], c) = some v) : ∃ u, ρ[q.1]? = some u ∧ v = q.2 * u + c := by
  obtain ⟨u, h1, h2⟩ := zx_ev_iff.mp h
  obtain ⟨v1, u1, g1, g2, g3⟩ := zx_evl_cons.mp h1
  cases g2
  exact ⟨v1, g1, by rw [h2, g3]; simp⟩
theorem zx_le_ok {ρ : List Int} {G : zx_G} (hG : zx_ok ρ G) {d : zx_L} {v k : Int} (hv : zx_ev ρ d = some v) (h : v ≤ k) : zx_ok ρ (zx_le G d k) := by
  rcases d with ⟨l, c⟩
  rw [zx_le]
  split
  · rename_i q hq
    have hq : l = [q] := hq
    subst hq
    obtain ⟨u, h1, h2⟩ := zx_ev1 hv
    split
    · exact hG
    · rename_i b hb
      obtain ⟨g1, g2⟩ := hG.2 _ _ _ h1 hb
      split
      · rename_i hc
        split
        · refine zx_ok_set hG fun v' hv' => ?_
          rw [h1] at hv'; cases hv'
          rw [hc] at h2
          exact ⟨g1, by show u ≤ k - c; omega⟩
        · exact hG
      · split
        · rename_i hc
          split
          · refine zx_ok_set hG fun v' hv' => ?_
            rw [h1] at hv'; cases hv'
            rw [hc] at h2
            exact ⟨by show c - k ≤ u; omega, g2⟩
          · exact hG
        · exact hG
  · exact hG
def zx_ge (G : zx_G) (d : zx_L) (k : Int) : zx_G := match d.1 with
  | [q] => match G[q.1]? with
    | none => G
    | some b => if q.2 = 1 then (if b.1 < k - d.2 then G.set q.1 (k - d.2, b.2) else G) else if q.2 = -1 then (if d.2 - k < b.2 then G.set q.1 (b.1, d.2 - k) else G) else G
  | _ => G
theorem zx_ge_ok {ρ : List Int} {G : zx_G} (hG : zx_ok ρ G) {d : zx_L} {v k : Int} (hv : zx_ev ρ d = some v) (h : k ≤ v) : zx_ok ρ (zx_ge G d k) := by
  rcases d with ⟨l, c⟩
  rw [zx_ge]
  split
  · rename_i q hq
    have hq : l = [q] := hq
    subst hq
    obtain ⟨u, h1, h2⟩ := zx_ev1 hv
    split
    · exact hG
    · rename_i b hb
      obtain ⟨g1, g2⟩ := hG.2 _ _ _ h1 hb
      split
      · rename_i hc
        split
        · refine zx_ok_set hG fun v' hv' => ?_
          rw [h1] at hv'; cases hv'
          rw [hc] at h2
          exact ⟨by show k - c ≤ u; omega, g2⟩
        · exact hG
      · split
        · rename_i hc
          split
          · refine zx_ok_set hG fun v' hv' => ?_
            rw [h1] at hv'; cases hv'
            rw [hc] at h2
            exact ⟨g1, by show u ≤ c - k; omega⟩
          · exact hG
        · exact hG
  · exact hG
/-- the ways a comparison of d with 0 can go, each with what is known behind it -/
def zx_lt0 (w : Bool) (G : zx_G) (d : zx_L) (t : Int × Int) : List (Bool × zx_G) :=
  (if t.1 < 0 then [(w, zx_le G d (-1))] else []) ++ (if 0 ≤ t.2 then [(!w, zx_ge G d 0)] else [])
def zx_gt0 (w : Bool) (G : zx_G) (d : zx_L) (t : Int × Int) : List (Bool × zx_G) :=
  (if 0 < t.2 then [(w, zx_ge G d 1)] else []) ++ (if t.1 ≤ 0 then [(!w, zx_le G d 0)] else [])
def zx_eq0 (w : Bool) (G : zx_G) (d : zx_L) (t : Int × Int) : List (Bool × zx_G) :=
  (if t.1 ≤ 0 ∧ 0 ≤ t.2 then [(w, zx_ge (zx_le G d 0) d 0)] else []) ++ (if t.1 = 0 ∧ t.2 = 0 then [] else [(!w, if t.1 = 0 then zx_ge G d 1 else if t.2 = 0 then zx_le G d (-1) else G)])
def zx_cmp (c : ClassFile.Cond) (G : zx_G) (d : zx_L) (t : Int × Int) : List (Bool × zx_G) := match c with
  | .eq => zx_eq0 true G d t
  | .ne => zx_eq0 false G d t
  | .lt => zx_lt0 true G d t
  | .ge => zx_lt0 false G d t
  | .gt => zx_gt0 true G d t
  | .le => zx_gt0 false G d t
def zx_holds (c : ClassFile.Cond) (v : Int) : Prop := match c with
  | .eq => v = 0
  | .ne => ¬ v = 0
  | .lt => v < 0
  | .ge => 0 ≤ v
  | .gt => 0 < v
  | .le => v ≤ 0
theorem zx_lt0_ok {ρ : List Int} {G : zx_G} (hG : zx_ok ρ G) {d : zx_L} {v : Int} {t : Int × Int} (hv : zx_ev ρ d = some v) (ht : t.1 ≤ v ∧ v ≤ t.2) (w : Bool) : (v < 0 → ∃ G', (w, G') ∈ zx_lt0 w G d t ∧ zx_ok ρ G') ∧ (0 ≤ v → ∃ G', (!w, G') ∈ zx_lt0 w G d t ∧ zx_ok ρ G') := by
  refine ⟨fun h => ⟨_, List.mem_append_left _ ?_, zx_le_ok hG hv (k := -1) (by omega)⟩, fun h => ⟨_, List.mem_append_right _ ?_, zx_ge_ok hG hv (k := 0) h⟩⟩
  · rw [if_pos (by omega)]; exact List.mem_singleton.mpr rfl
  · rw [if_pos (by omega)]; exact List.mem_singleton.mpr rfl
theorem zx_gt0_ok {ρ : List Int} {G : zx_G} (hG : zx_ok ρ G) {d : zx_L} {v : Int} {t : Int × Int} (hv : zx_ev ρ d = some v) (ht : t.1 ≤ v ∧ v ≤ t.2) (w : Bool) : (0 < v → ∃ G', (w, G') ∈ zx_gt0 w G d t ∧ zx_ok ρ G') ∧ (v ≤ 0 → ∃ G', (!w, G') ∈ zx_gt0 w G d t ∧ zx_ok ρ G') := by
  refine ⟨fun h => ⟨_, List.mem_append_left _ ?_, zx_ge_ok hG hv (k := 1) (by omega)⟩, fun h => ⟨_, List.mem_append_right _ ?_, zx_le_ok hG hv (k := 0) h⟩⟩
  · rw [if_pos (by omega)]; exact List.mem_singleton.mpr rfl
  · rw [if_pos (by omega)]; exact List.mem_singleton.mpr rfl
theorem zx_eq0_ok {ρ : List Int} {G : zx_G} (hG : zx_ok ρ G) {d : zx_L} {v : Int} {t : Int × Int} (hv : zx_ev ρ d = some v) (ht : t.1 ≤ v ∧ v ≤ t.2) (w : Bool) : (v = 0 → ∃ G', (w, G') ∈ zx_eq0 w G d t ∧ zx_ok ρ G') ∧ (¬ v = 0 → ∃ G', (!w, G') ∈ zx_eq0 w G d t ∧ zx_ok ρ G') := by
  refine ⟨fun h => ⟨zx_ge (zx_le G d 0) d 0, List.mem_append_left _ ?_, zx_ge_ok (zx_le_ok hG hv (k := 0) (by omega)) hv (k := 0) (by omega)⟩, fun h => ⟨if t.1 = 0 then zx_ge G d 1 else if t.2 = 0 then zx_le G d (-1) else G, List.mem_append_right _ ?_, ?_⟩⟩
  · rw [if_pos (by omega)]; exact List.mem_singleton.mpr rfl
  · rw [if_neg (by omega)]; exact List.mem_singleton.mpr rfl
  · split
    · exact zx_ge_ok hG hv (by omega)
    · split
      · exact zx_le_ok hG hv (by omega)
      · exact hG
theorem zx_cmp_ok {ρ : List Int} {G : zx_G} (hG : zx_ok ρ G) {d : zx_L} {v : Int} {t : Int × Int} (hv : zx_ev ρ d = some v) (ht : zx_rng G d = some t) (c : ClassFile.Cond) : (zx_holds c v → ∃ G', (true, G') ∈ zx_cmp c G d t ∧ zx_ok ρ G') ∧ (¬ zx_holds c v → ∃ G', (false, G') ∈ zx_cmp c G d t ∧ zx_ok ρ G') := by
  have hr := zx_rng_ok hG ht hv
  cases c with
  | eq => exact zx_eq0_ok hG hv hr true
  | ne => exact ⟨(zx_eq0_ok hG hv hr false).2, fun h => (zx_eq0_ok hG hv hr false).1 (Decidable.not_not.mp h)⟩
  | lt => exact ⟨(zx_lt0_ok hG hv hr true).1, fun h => (zx_lt0_ok hG hv hr true).2 (Int.not_lt.mp h)⟩
  | ge => exact ⟨(zx_lt0_ok hG hv hr false).2, fun h => (zx_lt0_ok hG hv hr false).1 (Int.not_le.mp h)⟩
  | gt => exact ⟨(zx_gt0_ok hG hv hr true).1, fun h => (zx_gt0_ok hG hv hr true).2 (Int.not_lt.mp h)⟩
  | le => exact ⟨(zx_gt0_ok hG hv hr false).2, fun h => (zx_gt0_ok hG hv hr false).1 (Int.not_le.mp h)⟩
/-- an unknown is taken apart into its numbers, if they are few -/
def zx_cuts (G : zx_G) (x : Nat) (lo : Int) : Nat → List zx_G
  | 0 => []
  | n + 1 => G.set x (lo, lo) :: zx_cuts G x (lo + 1) n
theorem zx_cuts_ok {ρ : List Int} {G : zx_G} (hG : zx_ok ρ G) {x : Nat} {v : Int} (hv : ρ[x]? = some v) : ∀ (n : Nat) (lo : Int), lo ≤ v → v < lo + n → ∃ G' ∈ zx_cuts G x lo n, zx_ok ρ G'
  | 0, lo, h1, h2 => absurd h2 (by omega)
  | n + 1, lo, h1, h2 => by
    rw [zx_cuts]
    by_cases h : v = lo
    · exact ⟨_, List.mem_cons_self, zx_ok_set hG fun v' hv' => by rw [hv] at hv'; cases hv'; exact ⟨h1, by show v ≤ lo; omega⟩⟩
    · obtain ⟨G', h3, h4⟩ := zx_cuts_ok hG hv n (lo + 1) (by omega) (by omega)
      exact ⟨G', List.mem_cons_of_mem _ h3, h4⟩
def zx_split (G : zx_G) (e : zx_L) : Option (List zx_G) := match e.1 with
  | [] => some [G]
  | [q] => match G[q.1]? with
    | none => none
    | some b => if b.2 - b.1 ≤ 64 then some (zx_cuts G q.1 b.1 (b.2 - b.1 + 1).toNat) else none
  | _ => none
theorem zx_split_ok {ρ : List Int} {G : zx_G} (hG : zx_ok ρ G) {e : zx_L} {v : Int} (hv : zx_ev ρ e = some v) {l : List zx_G} (h : zx_split G e = some l) : ∃ G' ∈ l, zx_ok ρ G' := by
  rcases e with ⟨m, c⟩
  rw [zx_split] at h
  split at h
  · cases h; exact ⟨G, List.mem_singleton.mpr rfl, hG⟩
  · rename_i q hq
    have hq : m = [q] := hq
    subst hq
    obtain ⟨u, h1, h2⟩ := zx_ev1 hv
    split at h
    · cases h
    · rename_i b hb
      obtain ⟨g1, g2⟩ := hG.2 _ _ _ h1 hb
      split at h
      · cases h
        exact zx_cuts_ok hG h1 _ _ g1 (by omega)
      · cases h
  · cases h
/-- the ways of a switch: below, above, each number between -/
def zx_tmid (G : zx_G) (x : zx_L) (v : Int) : Nat → List zx_G
  | 0 => []
  | n + 1 => zx_ge (zx_le G x v) x v :: zx_tmid G x (v + 1) n
theorem zx_tmid_ok {ρ : List Int} {G : zx_G} (hG : zx_ok ρ G) {x : zx_L} {w : Int} (hw : zx_ev ρ x = some w) : ∀ (n : Nat) (v : Int), v ≤ w → w < v + n → ∃ G' ∈ zx_tmid G x v n, zx_ok ρ G'
  | 0, v, h1, h2 => absurd h2 (by omega)
  | n + 1, v, h1, h2 => by
    rw [zx_tmid]
    by_cases h : w = v
    · exact ⟨_, List.mem_cons_self, zx_ge_ok (zx_le_ok hG hw (by omega)) hw (by omega)⟩
    · obtain ⟨G', h3, h4⟩ := zx_tmid_ok hG hw n (v + 1) (by omega) (by omega)
      exact ⟨G', List.mem_cons_of_mem _ h3, h4⟩
def zx_tcuts (G : zx_G) (x : zx_L) (t : Int × Int) (lo hi : Int) : List zx_G :=
  (if t.1 < lo then [zx_le G x (lo - 1)] else []) ++ ((if hi < t.2 then [zx_ge G x (hi + 1)] else []) ++ (let a := if lo < t.1 then t.1 else lo; let b := if t.2 < hi then t.2 else hi; zx_tmid G x a (b - a + 1).toNat))
theorem zx_tcuts_ok {ρ : List Int} {G : zx_G} (hG : zx_ok ρ G) {x : zx_L} {w : Int} {t : Int × Int} {lo hi : Int} (hw : zx_ev ρ x = some w) (ht : t.1 ≤ w ∧ w ≤ t.2) : ∃ G' ∈ zx_tcuts G x t lo hi, zx_ok ρ G' := by
  unfold zx_tcuts
  by_cases h1 : w < lo
  · exact ⟨_, List.mem_append_left _ (by rw [if_pos (by omega)]; exact List.mem_singleton.mpr rfl), zx_le_ok hG hw (by omega)⟩
  · by_cases h2 : hi < w
    · exact ⟨_, List.mem_append_right _ (List.mem_append_left _ (by rw [if_pos (by omega)]; exact List.mem_singleton.mpr rfl)), zx_ge_ok hG hw (by omega)⟩
    · obtain ⟨G', h3, h4⟩ := zx_tmid_ok hG hw ((if t.2 < hi then t.2 else hi) - (if lo < t.1 then t.1 else lo) + 1).toNat (if lo < t.1 then t.1 else lo) (by split <;> omega) (by split <;> split <;> omega)
      exact ⟨G', List.mem_append_right _ (List.mem_append_right _ h3), h4⟩
/-- every one of a list gives its ways; all of them -/
def zx_all {α β : Type} (f : α → Option (List β)) : List α → Option (List β)
  | [] => some []
  | a :: t => match f a, zx_all f t with
    | some x, some y => some (x ++ y)
    | some _, none => none
    | none, _ => none
theorem zx_all_ok {α β : Type} {f : α → Option (List β)} : ∀ {l : List α} {r : List β} {a : α}, zx_all f l = some r → a ∈ l → ∃ x, f a = some x ∧ ∀ q ∈ x, q ∈ r
  | [], _, _, _, h => nomatch h
  | a0 :: t, r, a, h, ha => by
    rw [zx_all] at h
    split at h
    · rename_i x y hx hy
      cases h
      rcases List.mem_cons.mp ha with e | e
      · subst e; exact ⟨x, hx, fun q hq => List.mem_append_left _ hq⟩
      · obtain ⟨x', h1, h2⟩ := zx_all_ok hy e
        exact ⟨x', h1, fun q hq => List.mem_append_right _ (h2 q hq)⟩
    · cases h
    · cases h
end
section
/-! zx: what is known of a state, and what of it stays -/
def zx_RS (b : Nat) (ex : List Nat) (ρ : List Int) (ad : List Nat) (t : zx_S) (x : Value) : Prop := match t with
  | .inl v => zx_R b ex ρ ad v x
  | .inr q => ∃ w : Int32, x = .int w ∧ q.1 ≤ w.toInt ∧ w.toInt ≤ q.2
theorem zx_RS_app {b : Nat} {ex : List Nat} {ρ r : List Int} {ad q : List Nat} {t : zx_S} {x : Value} (h : zx_RS b ex ρ ad t x) : zx_RS b ex (ρ ++ r) (ad ++ q) t x := by
  rcases t with v | k
  · exact zx_R_app (v := v) h
  · exact h
def zx_RA (b : Nat) (ex : List Nat) (ρ : List Int) (ad : List Nat) (n : Nat) (sm : Bool) (l : List zx_S) (el : Nat → Value) : Prop := match sm with
  | true => ∃ t, l = [t] ∧ ∀ j, j < n → zx_RS b ex ρ ad t (el j)
  | false => l.length = n ∧ ∀ (j : Nat) (t : zx_S), l[j]? = some t → zx_RS b ex ρ ad t (el j)
theorem zx_RA_app {b : Nat} {ex : List Nat} {ρ r : List Int} {ad q : List Nat} {n : Nat} {sm : Bool} {l : List zx_S} {el : Nat → Value} (h : zx_RA b ex ρ ad n sm l el) : zx_RA b ex (ρ ++ r) (ad ++ q) n sm l el := by
  cases sm with
  | true =>
    obtain ⟨t, h1, h2⟩ := h
    exact ⟨t, h1, fun j hj => zx_RS_app (h2 j hj)⟩
  | false => exact ⟨h.1, fun j t ht => zx_RS_app (h.2 j t ht)⟩
def zx_ty (cl : List vw_C) (t : Nat) : FieldType := match t with
  | 0 => .int
  | 1 => .byte
  | 2 => .boolean
  | k + 3 => .object ((cl[k]?.map (fun q => q.1)).getD "")
def zx_RC (cl : List vw_C) (b : Nat) (ex : List Nat) (ρ : List Int) (ad : List Nat) (tys : List (ClassId × FieldType)) (c : zx_C) (e : va_E) : Prop := match c with
  | .inl o => ∃ fs, e = .inr (o.1, fs) ∧ zx_F2 (zx_RS b ex ρ ad) o.2 fs
  | .inr (.inl q) => ∃ (cA : ClassId) (t0 : Nat), tys[t0]? = some (cA, zx_ty cl q.1) ∧
      ((q.1 < 3 ∧ ∃ f : Nat → Int32, e = .inl (cA, q.2.1, .inl f) ∧ zx_RA b ex ρ ad q.2.1 q.2.2.1 q.2.2.2 (fun j => .int (f j))) ∨
       (3 ≤ q.1 ∧ ∃ f : Nat → Option Nat, e = .inl (cA, q.2.1, .inr (.inr (.inr (.inr f)))) ∧ zx_RA b ex ρ ad q.2.1 q.2.2.1 q.2.2.2 (fun j => va_rf (f j))))
  | .inr (.inr n) => ∃ (cA : ClassId) (t0 : Nat) (f : Nat → Int64), tys[t0]? = some (cA, .long) ∧ e = .inl (cA, n, .inr (.inl f))
theorem zx_tys_app {tys q : List (ClassId × FieldType)} {k : Nat} {x : ClassId × FieldType} (h : tys[k]? = some x) : (tys ++ q)[k]? = some x := by
  rw [List.getElem?_append_left (List.getElem?_eq_some_iff.mp h).1]; exact h
theorem zx_RC_app {cl : List vw_C} {b : Nat} {ex : List Nat} {ρ r : List Int} {ad q : List Nat} {tys ty : List (ClassId × FieldType)} {c : zx_C} {e : va_E} (h : zx_RC cl b ex ρ ad tys c e) : zx_RC cl b ex (ρ ++ r) (ad ++ q) (tys ++ ty) c e := by
  rcases c with o | k | n
  · obtain ⟨fs, h1, h2⟩ := h
    exact ⟨fs, h1, zx_F2_imp (fun _ _ => zx_RS_app) h2⟩
  · obtain ⟨cA, t0, h1, h2⟩ := h
    refine ⟨cA, t0, zx_tys_app h1, ?_⟩
    rcases h2 with ⟨h2, f, h3, h4⟩ | ⟨h2, f, h3, h4⟩
    · exact Or.inl ⟨h2, f, h3, zx_RA_app h4⟩
    · exact Or.inr ⟨h2, f, h3, zx_RA_app h4⟩
  · obtain ⟨cA, t0, f, h1, h2⟩ := h
    exact ⟨cA, t0, f, zx_tys_app h1, h2⟩
/-- unknowns; cells; locals; stack; how many cells and slots are new -/
abbrev zx_T : Type := zx_G × (List zx_C × (List (Nat × zx_V) × (List zx_V × (Nat × Nat))))
abbrev zx_as (ws : va_W) : List Nat := ws.map Prod.fst
/-- all but the bounds -/
def zx_B (D : va_G) (cl : List vw_C) (A : Nat → Prop) (b : Nat) (ex ad0 : List Nat) (nL : Nat) (s : State) (ρ : List Int) (h : List zx_C) (lv : List (Nat × zx_V)) (sk : List zx_V) (H : Heap) (locs : List Loc) (ls : Array Slot) (kc : List Value) (tys : List (ClassId × FieldType)) (ws : va_W) (lc : List (Nat × Value)) : Prop :=
  va_K D cl tys s ∧ va_P D cl ws H ∧ va_D A ws ∧ (va_S A s.heap H locs ∧ ∃ xt, zx_as ws = ad0 ++ xt) ∧ zx_F2 (fun c q => zx_RC cl b ex ρ (zx_as ws) tys c q.2) h ws ∧ zx_F2 (fun x y => x.1 = y.1 ∧ zx_R b ex ρ (zx_as ws) x.2 y.2) lv lc ∧ lv_has ls nL lc ∧ zx_F2 (zx_R b ex ρ (zx_as ws)) sk kc
def zx_J (D : va_G) (cl : List vw_C) (A : Nat → Prop) (b : Nat) (ex ad0 : List Nat) (nL : Nat) (s : State) (ρ : List Int) (G : zx_G) (h : List zx_C) (lv : List (Nat × zx_V)) (sk : List zx_V) (H : Heap) (locs : List Loc) (ls : Array Slot) (kc : List Value) : Prop :=
  zx_ok ρ G ∧ ∃ (tys : List (ClassId × FieldType)) (ws : va_W) (lc : List (Nat × Value)), zx_B D cl A b ex ad0 nL s ρ h lv sk H locs ls kc tys ws lc
section ZXB
variable {D : va_G} {cl : List vw_C} {A : Nat → Prop} {b : Nat} {ex ad0 : List Nat} {nL : Nat} {s : State} {ρ : List Int} {G : zx_G} {h : List zx_C} {lv : List (Nat × zx_V)} {sk : List zx_V} {H : Heap} {locs : List Loc} {ls : Array Slot} {kc : List Value} {tys : List (ClassId × FieldType)} {ws : va_W} {lc : List (Nat × Value)}
theorem zx_RC_up {r : List Int} {ad : List Nat} {c : zx_C} {e : va_E} (h : zx_RC cl b ex ρ ad tys c e) : zx_RC cl b ex (ρ ++ r) ad tys c e := by
  have h1 := zx_RC_app (r := r) (q := []) (ty := []) h
  rwa [List.append_nil, List.append_nil] at h1
theorem zx_B_up {r : List Int} (B : zx_B D cl A b ex ad0 nL s ρ h lv sk H locs ls kc tys ws lc) : zx_B D cl A b ex ad0 nL s (ρ ++ r) h lv sk H locs ls kc tys ws lc := by
  obtain ⟨h1, h2, h3, h4, h5, h6, h7, h8⟩ := B
  exact ⟨h1, h2, h3, h4, zx_F2_imp (fun _ _ q => zx_RC_up q) h5, zx_F2_imp (fun _ _ q => ⟨q.1, zx_R_up q.2⟩) h6, h7, zx_F2_imp (fun _ _ q => zx_R_up q) h8⟩
theorem zx_B_sk {sk' : List zx_V} {kc' : List Value} (B : zx_B D cl A b ex ad0 nL s ρ h lv sk H locs ls kc tys ws lc) (h8 : zx_F2 (zx_R b ex ρ (zx_as ws)) sk' kc') : zx_B D cl A b ex ad0 nL s ρ h lv sk' H locs ls kc' tys ws lc := by
  obtain ⟨h1, h2, h3, h4, h5, h6, h7, -⟩ := B
  exact ⟨h1, h2, h3, h4, h5, h6, h7, h8⟩
/-- a result on the stack -/
theorem zx_J_res {r : zx_G × zx_V} {x : Value} (B : zx_B D cl A b ex ad0 nL s ρ h lv sk H locs ls kc tys ws lc) (hr : zx_P b ex ρ (zx_as ws) r x) : ∃ r2, zx_J D cl A b ex ad0 nL s (ρ ++ r2) r.1 h lv (r.2 :: sk) H locs ls (x :: kc) := by
  obtain ⟨r2, h1, h2⟩ := hr
  have B2 := zx_B_up (r := r2) B
  exact ⟨r2, h1, tys, ws, lc, zx_B_sk B2 ⟨h2, B2.2.2.2.2.2.2.2⟩⟩
theorem zx_J_same (hG : zx_ok ρ G) (B : zx_B D cl A b ex ad0 nL s ρ h lv sk H locs ls kc tys ws lc) : zx_J D cl A b ex ad0 nL s (ρ ++ []) G h lv sk H locs ls kc := by
  rw [List.append_nil]; exact ⟨hG, tys, ws, lc, B⟩
end ZXB
/-- a local -/
def zx_lk : List (Nat × zx_V) → Nat → Option zx_V
  | [], _ => none
  | q :: r, i => if q.1 = i then some q.2 else zx_lk r i
theorem zx_lk_ok {R : zx_V → Value → Prop} {i : Nat} {v : zx_V} : ∀ {lv : List (Nat × zx_V)} {lc : List (Nat × Value)}, zx_F2 (fun x y => x.1 = y.1 ∧ R x.2 y.2) lv lc → zx_lk lv i = some v → ∃ (x : Value) (k : Nat), lc[k]? = some (i, x) ∧ R v x
  | [], _, _, h => nomatch h
  | q :: r, [], h, _ => h.elim
  | q :: r, y :: m, h, hk => by
    rw [zx_lk] at hk
    by_cases hq : q.1 = i
    · rw [if_pos hq] at hk
      cases hk
      refine ⟨y.2, 0, ?_, h.1.2⟩
      show some y = _
      rw [← hq, h.1.1]
    · rw [if_neg hq] at hk
      obtain ⟨x, k, h1, h2⟩ := zx_lk_ok h.2 hk
      exact ⟨x, k + 1, by simpa using h1, h2⟩
/-- a local anew: of one word, of two -/
def zx_st1 (lv : List (Nat × zx_V)) (i : Nat) (v : zx_V) : List (Nat × zx_V) := (i, v) :: lv.filter (fun q => !(q.1 == i) && !(q.1 + 1 == i && zx_cat q.2 == 2))
def zx_st2 (lv : List (Nat × zx_V)) (i : Nat) (v : zx_V) : List (Nat × zx_V) := (i, v) :: lv.filter (fun q => !(q.1 == i) && (!(q.1 == i + 1) && !(q.1 + 1 == i && zx_cat q.2 == 2)))
theorem zx_st1_ok {b : Nat} {ex : List Nat} {ρ : List Int} {ad : List Nat} {lv : List (Nat × zx_V)} {lc : List (Nat × Value)} {i : Nat} {v : zx_V} {x : Value} (h : zx_F2 (fun x y => x.1 = y.1 ∧ zx_R b ex ρ ad x.2 y.2) lv lc) (hv : zx_R b ex ρ ad v x) : zx_F2 (fun x y => x.1 = y.1 ∧ zx_R b ex ρ ad x.2 y.2) (zx_st1 lv i v) ((i, x) :: lc.filter (fun q => !(q.1 == i) && !(q.1 + 1 == i && q.2.category == 2))) :=
  ⟨⟨rfl, hv⟩, zx_F2_filter (fun p q hpq => by rw [hpq.1, zx_R_cat hpq.2]) h⟩
theorem zx_st2_ok {b : Nat} {ex : List Nat} {ρ : List Int} {ad : List Nat} {lv : List (Nat × zx_V)} {lc : List (Nat × Value)} {i : Nat} {v : zx_V} {x : Value} (h : zx_F2 (fun x y => x.1 = y.1 ∧ zx_R b ex ρ ad x.2 y.2) lv lc) (hv : zx_R b ex ρ ad v x) : zx_F2 (fun x y => x.1 = y.1 ∧ zx_R b ex ρ ad x.2 y.2) (zx_st2 lv i v) ((i, x) :: lc.filter (fun q => !(q.1 == i) && (!(q.1 == i + 1) && !(q.1 + 1 == i && q.2.category == 2)))) :=
  ⟨⟨rfl, hv⟩, zx_F2_filter (fun p q hpq => by rw [hpq.1, zx_R_cat hpq.2]) h⟩
end
section
/-! zx: one instruction -/
/-- the tables that go with a method: fields (class, place, sort, final), statics, classes, whole numbers, longs, what a new row holds (as one, from .. to); the locals; <init>; the room; a script -/
abbrev zx_M : Type := (Nat → Option (Nat × Nat × Nat × Bool)) × ((Nat → Option Nat) × ((Nat → Option Nat) × ((Nat → Option Int) × ((Nat → Bool) × ((Nat → Option (Bool × Int × Int)) × (Nat × (Bool × ((Nat × Nat) × Bool))))))))
abbrev zx_mF (M : zx_M) := M.1
abbrev zx_mS (M : zx_M) := M.2.1
abbrev zx_mC (M : zx_M) := M.2.2.1
abbrev zx_mI (M : zx_M) := M.2.2.2.1
abbrev zx_mL (M : zx_M) := M.2.2.2.2.1
abbrev zx_mN (M : zx_M) := M.2.2.2.2.2.1
abbrev zx_mV (M : zx_M) := M.2.2.2.2.2.2.1
abbrev zx_mB (M : zx_M) := M.2.2.2.2.2.2.2.1
abbrev zx_mR (M : zx_M) := M.2.2.2.2.2.2.2.2.1
abbrev zx_mX (M : zx_M) := M.2.2.2.2.2.2.2.2.2
abbrev zx_O : Type := Option (List (Nat × zx_T))
abbrev zx_lg : zx_V := .inr (.inr true)
def zx_go (pc : Nat) (h : List zx_C) (lv : List (Nat × zx_V)) (k : Nat × Nat) (sk : List zx_V) (r : Option (zx_G × zx_V)) : zx_O := match r with
  | some r => some [(pc, r.1, h, lv, r.2 :: sk, k)]
  | none => none
def zx_tg (pc : Nat) (off : Int) : Option Nat := if 0 ≤ (pc : Int) + off then some ((pc : Int) + off).toNat else none
theorem zx_tg_ok {pc t : Nat} {off : Int} (h : zx_tg pc off = some t) : (pc : Int) + off = (t : Int) := by
  rw [zx_tg] at h
  split at h
  · cases h; rw [Int.toNat_of_nonneg (by assumption)]
  · cases h
section ZXX
variable (M : zx_M) (pc : Nat) (G : zx_G) (h : List zx_C) (lv : List (Nat × zx_V)) (k : Nat × Nat) (sk : List zx_V)
def zx_xk (n lo hi : Int) (d : Nat) : zx_O := if decide (lo ≤ n) && decide (n ≤ hi) then some [(pc + d, G, h, lv, .inl ([], n) :: sk, k)] else none
def zx_xld (i d : Nat) : zx_O := match zx_lk lv i with
  | some (.inl e) => some [(pc + d, G, h, lv, .inl e :: sk, k)]
  | _ => none
def zx_xlld (i d : Nat) : zx_O := match zx_lk lv i with
  | some (.inr (.inr true)) => some [(pc + d, G, h, lv, zx_lg :: sk, k)]
  | _ => none
def zx_xald (i d : Nat) : zx_O := match zx_lk lv i with
  | some (.inr (.inl (r, false))) => some [(pc + d, G, h, lv, .inr (.inl (r, false)) :: sk, k)]
  | some (.inr (.inr false)) => some [(pc + d, G, h, lv, .inr (.inr false) :: sk, k)]
  | _ => none
def zx_xst (i d : Nat) : zx_O := match sk with
  | .inl e :: r => if i < zx_mV M then some [(pc + d, G, h, zx_st1 lv i (.inl e), r, k)] else none
  | _ => none
def zx_xlst (i d : Nat) : zx_O := match sk with
  | .inr (.inr true) :: r => if i + 1 < zx_mV M then some [(pc + d, G, h, zx_st2 lv i zx_lg, r, k)] else none
  | _ => none
def zx_xast (i d : Nat) : zx_O := match sk with
  | .inr (.inl (q, false)) :: r => if i < zx_mV M then some [(pc + d, G, h, zx_st1 lv i (.inr (.inl (q, false))), r, k)] else none
  | _ => none
def zx_xinc (i : Nat) (n : Int) : zx_O := match zx_lk lv i with
  | some (.inl e) => if decide (i < zx_mV M) && decide (-32768 ≤ n) && decide (n ≤ 32767) then (match zx_val G (zx_add e ([], n)) with
    | some r => some [(pc + 3, r.1, h, zx_st1 lv i r.2, sk, k)]
    | none => none) else none
  | _ => none
/-- two ints come off, one goes on -/
def zx_xbin (f : zx_L → zx_L → Option (zx_G × zx_V)) : zx_O := match sk with
  | .inl y :: .inl x :: r => zx_go (pc + 1) h lv k r (f x y)
  | _ => none
def zx_xi2b : zx_O := match sk with
  | .inl x :: r => (match zx_rng G x with
    | some t => zx_go (pc + 1) h lv k r (if zx_in t (-128) 127 = true then some (G, .inl x) else some (zx_fr G (-128) 127))
    | none => none)
  | _ => none
def zx_xi2l : zx_O := match sk with
  | .inl _ :: r => some [(pc + 1, G, h, lv, zx_lg :: r, k)]
  | _ => none
def zx_xl2i : zx_O := match sk with
  | .inr (.inr true) :: r => zx_go (pc + 1) h lv k r (some (zx_full G))
  | _ => none
def zx_xlbin : zx_O := match sk with
  | .inr (.inr true) :: .inr (.inr true) :: r => some [(pc + 1, G, h, lv, zx_lg :: r, k)]
  | _ => none
def zx_xlsh : zx_O := match sk with
  | .inl _ :: .inr (.inr true) :: r => some [(pc + 1, G, h, lv, zx_lg :: r, k)]
  | _ => none
def zx_xlcmp : zx_O := match sk with
  | .inr (.inr true) :: .inr (.inr true) :: r => zx_go (pc + 1) h lv k r (some (zx_full G))
  | _ => none
def zx_xdup : zx_O := match sk with
  | v :: r => if zx_cat v = 1 then some [(pc + 1, G, h, lv, v :: v :: r, k)] else none
  | _ => none
def zx_xpop : zx_O := match sk with
  | v :: r => if zx_cat v = 1 then some [(pc + 1, G, h, lv, r, k)] else none
  | _ => none
def zx_xdupx1 : zx_O := match sk with
  | v :: w :: r => if zx_cat v = 1 ∧ zx_cat w = 1 then some [(pc + 1, G, h, lv, v :: w :: v :: r, k)] else none
  | _ => none
def zx_xdup2 : zx_O := match sk with
  | v :: w :: r => if zx_cat v = 1 ∧ zx_cat w = 1 then some [(pc + 1, G, h, lv, v :: w :: v :: w :: r, k)] else none
  | _ => none
def zx_xgoto (off : Int) : zx_O := match zx_tg pc off with
  | some t => some [(t, G, h, lv, sk, k)]
  | none => none
def zx_xbr (c : ClassFile.Cond) (t : Nat) (d : zx_L) (r : List zx_V) : zx_O := match zx_rng G d with
  | some q => some ((zx_cmp c G d q).map (fun z => (if z.1 = true then t else pc + 3, z.2, h, lv, r, k)))
  | none => none
def zx_xif (c : ClassFile.Cond) (off : Int) : zx_O := match sk with
  | .inl x :: r => (match zx_tg pc off with
    | some t => zx_xbr pc G h lv k c t x r
    | none => none)
  | _ => none
def zx_xicmp (c : ClassFile.Cond) (off : Int) : zx_O := match sk with
  | .inl y :: .inl x :: r => (match zx_tg pc off with
    | some t => zx_xbr pc G h lv k c t (zx_sub x y) r
    | none => none)
  | _ => none
def zx_xtab1 (dflt lo hi : Int) (offs : Array Int) (x : zx_L) (r : List zx_V) (G1 : zx_G) : zx_O := match zx_rng G1 x with
  | some t => if t.2 < lo ∨ hi < t.1 then (match zx_tg pc dflt with
      | some g => some [(g, G1, h, lv, r, k)]
      | none => none) else if t.1 = t.2 then (match offs[(t.1 - lo).toNat]? with
      | some off => (match zx_tg pc off with
        | some g => some [(g, G1, h, lv, r, k)]
        | none => none)
      | none => none) else none
  | none => none
def zx_xtab (dflt lo hi : Int) (offs : Array Int) : zx_O := match sk with
  | .inl x :: r => (match zx_rng G x with
    | some t => zx_all (zx_xtab1 pc h lv k dflt lo hi offs x r) (zx_tcuts G x t lo hi)
    | none => none)
  | _ => none
def zx_xint (n : Option Int) (d : Nat) : zx_O := match n with
  | some n => some [(pc + d, G, h, lv, .inl ([], n) :: sk, k)]
  | none => none
end ZXX
section ZXW
variable {p : Program} {l : Launch} {e : Env} {R : Room} {s : State} {m : MethodId} {args : Array Value} {below : List Frame} {meth : Method} {c : Code} {Q : State → Prop}
variable {D : va_G} {cl : List vw_C} {A : Nat → Prop} {b : Nat} {ex ad0 : List Nat} {nL : Nat} {ρ : List Int} {G : zx_G} {h : List zx_C} {lv : List (Nat × zx_V)} {k : Nat × Nat} {sk : List zx_V} {H : Heap} {locs : List Loc} {ls : Array Slot} {kc : List Value} {tys : List (ClassId × FieldType)} {ws : va_W} {lc : List (Nat × Value)}
variable {cc : ByteArray} {pc : Nat} {M : zx_M} {z : List (Nat × zx_T)}
/-- every way goes on -/
def zx_KK (p : Program) (l : Launch) (e : Env) (R : Room) (s : State) (m : MethodId) (args : Array Value) (below : List Frame) (meth : Method) (c : Code) (Q : State → Prop) (D : va_G) (cl : List vw_C) (A : Nat → Prop) (b : Nat) (ex ad0 : List Nat) (nL : Nat) (ρ : List Int) (z : List (Nat × zx_T)) : Prop :=
  ∀ q ∈ z, ∀ (r2 : List Int) (H' : Heap) (locs' : List Loc) (ls' : Array Slot) (kc' : List Value), zx_J D cl A b ex ad0 nL s (ρ ++ r2) q.2.1 q.2.2.1 q.2.2.2.1 q.2.2.2.2.1 H' locs' ls' kc' → W p l e R s m args below meth c H' locs' q.2.2.2.2.2.1 q.2.2.2.2.2.2 Q (F0 m q.1 ls' kc')
theorem zx_K1 {pc' : Nat} {G' : zx_G} {h' : List zx_C} {lv' : List (Nat × zx_V)} {sk' : List zx_V} {k' : Nat × Nat} {r2 : List Int} {H' : Heap} {locs' : List Loc} {ls' : Array Slot} {kc' : List Value} (K : zx_KK p l e R s m args below meth c Q D cl A b ex ad0 nL ρ z) (hz : (pc', G', h', lv', sk', k') ∈ z) (J : zx_J D cl A b ex ad0 nL s (ρ ++ r2) G' h' lv' sk' H' locs' ls' kc') : W p l e R s m args below meth c H' locs' k'.1 k'.2 Q (F0 m pc' ls' kc') := K _ hz r2 H' locs' ls' kc' J
theorem zx_one {α : Type} {a : α} {z : List α} (h : some [a] = some z) : a ∈ z := by cases h; exact List.mem_singleton.mpr rfl
theorem zx_go_W {pc' : Nat} {r : Option (zx_G × zx_V)} {x : Value} (B : zx_B D cl A b ex ad0 nL s ρ h lv sk H locs ls kc tys ws lc) (hz : zx_go pc' h lv k sk r = some z) (hr : ∀ q, r = some q → zx_P b ex ρ (zx_as ws) q x) (K : zx_KK p l e R s m args below meth c Q D cl A b ex ad0 nL ρ z) : W p l e R s m args below meth c H locs k.1 k.2 Q (F0 m pc' ls (x :: kc)) := by
  cases r with
  | none => cases hz
  | some q =>
    obtain ⟨r2, J⟩ := zx_J_res B (hr q rfl)
    exact zx_K1 K (zx_one hz) J
/-- one value more on the stack, bounds as they were -/
theorem zx_push_W {pc' : Nat} {v : zx_V} {x : Value} (hG : zx_ok ρ G) (B : zx_B D cl A b ex ad0 nL s ρ h lv sk H locs ls kc tys ws lc) (hz : some [(pc', G, h, lv, v :: sk, k)] = some z) (hv : zx_R b ex ρ (zx_as ws) v x) (K : zx_KK p l e R s m args below meth c Q D cl A b ex ad0 nL ρ z) : W p l e R s m args below meth c H locs k.1 k.2 Q (F0 m pc' ls (x :: kc)) :=
  zx_K1 K (zx_one hz) (zx_J_same hG (zx_B_sk B ⟨hv, B.2.2.2.2.2.2.2⟩))
theorem zx_top1 {v : zx_V} {r : List zx_V} (B : zx_B D cl A b ex ad0 nL s ρ h lv (v :: r) H locs ls kc tys ws lc) : ∃ x kr, kc = x :: kr ∧ zx_R b ex ρ (zx_as ws) v x ∧ zx_B D cl A b ex ad0 nL s ρ h lv r H locs ls kr tys ws lc := by
  have h8 := B.2.2.2.2.2.2.2
  rcases kc with _ | ⟨x, kr⟩
  · exact h8.elim
  · exact ⟨x, kr, rfl, h8.1, zx_B_sk B h8.2⟩
theorem zx_topi {y : zx_L} {r : List zx_V} (B : zx_B D cl A b ex ad0 nL s ρ h lv (.inl y :: r) H locs ls kc tys ws lc) : ∃ (w : Int32) (kr : List Value), kc = .int w :: kr ∧ zx_ev ρ y = some w.toInt ∧ zx_B D cl A b ex ad0 nL s ρ h lv r H locs ls kr tys ws lc := by
  obtain ⟨x, kr, h1, ⟨w, h2, h3⟩, h4⟩ := zx_top1 B
  subst h2
  exact ⟨w, kr, h1, h3, h4⟩
theorem zx_topl {r : List zx_V} (B : zx_B D cl A b ex ad0 nL s ρ h lv (zx_lg :: r) H locs ls kc tys ws lc) : ∃ (w : Int64) (kr : List Value), kc = .long w :: kr ∧ zx_B D cl A b ex ad0 nL s ρ h lv r H locs ls kr tys ws lc := by
  obtain ⟨x, kr, h1, ⟨w, h2⟩, h4⟩ := zx_top1 B
  subst h2
  exact ⟨w, kr, h1, h4⟩
theorem zx_xk_ok {n lo hi : Int} {d : Nat} {w : Int32} (hG : zx_ok ρ G) (B : zx_B D cl A b ex ad0 nL s ρ h lv sk H locs ls kc tys ws lc) (hz : zx_xk pc G h lv k sk n lo hi d = some z) (K : zx_KK p l e R s m args below meth c Q D cl A b ex ad0 nL ρ z) (hw : lo ≤ n → n ≤ hi → w.toInt = n) : W p l e R s m args below meth c H locs k.1 k.2 Q (F0 m (pc + d) ls (.int w :: kc)) := by
  unfold zx_xk at hz
  split at hz
  · rename_i hc
    simp only [Bool.and_eq_true, decide_eq_true_iff] at hc
    refine zx_push_W hG B hz ⟨w, rfl, ?_⟩ K
    rw [hw hc.1 hc.2]
    exact zx_ev_iff.mpr ⟨0, rfl, by simp⟩
  · cases hz
theorem zx_lk_B {i : Nat} {v : zx_V} (B : zx_B D cl A b ex ad0 nL s ρ h lv sk H locs ls kc tys ws lc) (hv : zx_lk lv i = some v) : ∃ (x : Value) (j : Nat), lc[j]? = some (i, x) ∧ ls[i]? = some (.val x) ∧ zx_R b ex ρ (zx_as ws) v x := by
  obtain ⟨x, j, h1, h2⟩ := zx_lk_ok (R := zx_R b ex ρ (zx_as ws)) B.2.2.2.2.2.1 hv
  exact ⟨x, j, h1, lv_at B.2.2.2.2.2.2.1 j h1, h2⟩
theorem zx_xld_ok {i d : Nat} (hG : zx_ok ρ G) (B : zx_B D cl A b ex ad0 nL s ρ h lv sk H locs ls kc tys ws lc) (hz : zx_xld pc G h lv k sk i d = some z) (K : zx_KK p l e R s m args below meth c Q D cl A b ex ad0 nL ρ z) : ∃ w : Int32, ls[i]? = some (.val (.int w)) ∧ W p l e R s m args below meth c H locs k.1 k.2 Q (F0 m (pc + d) ls (.int w :: kc)) := by
  unfold zx_xld at hz
  split at hz
  · rename_i e0 he
    obtain ⟨x, j, h1, h2, w, h3, h4⟩ := zx_lk_B B he
    subst h3
    exact ⟨w, h2, zx_push_W hG B hz ⟨w, rfl, h4⟩ K⟩
  · cases hz
theorem zx_xlld_ok {i d : Nat} (hG : zx_ok ρ G) (B : zx_B D cl A b ex ad0 nL s ρ h lv sk H locs ls kc tys ws lc) (hz : zx_xlld pc G h lv k sk i d = some z) (K : zx_KK p l e R s m args below meth c Q D cl A b ex ad0 nL ρ z) : ∃ w : Int64, ls[i]? = some (.val (.long w)) ∧ W p l e R s m args below meth c H locs k.1 k.2 Q (F0 m (pc + d) ls (.long w :: kc)) := by
  unfold zx_xlld at hz
  split at hz
  · rename_i he
    obtain ⟨x, j, h1, h2, w, h3⟩ := zx_lk_B B he
    subst h3
    exact ⟨w, h2, zx_push_W hG B hz ⟨w, rfl⟩ K⟩
  · cases hz
theorem zx_xald_ok {i d : Nat} (hG : zx_ok ρ G) (B : zx_B D cl A b ex ad0 nL s ρ h lv sk H locs ls kc tys ws lc) (hz : zx_xald pc G h lv k sk i d = some z) (K : zx_KK p l e R s m args below meth c Q D cl A b ex ad0 nL ρ z) : ∃ w : Nat, ls[i]? = some (.val (.ref w)) ∧ W p l e R s m args below meth c H locs k.1 k.2 Q (F0 m (pc + d) ls (.ref w :: kc)) := by
  unfold zx_xald at hz
  split at hz
  · rename_i r he
    obtain ⟨x, j, h1, h2, h3⟩ := zx_lk_B B he
    rcases h3 with ⟨h4, -⟩ | ⟨i0, a, h4, h5, h6⟩
    · cases h4
    · subst h6
      exact ⟨a, h2, zx_push_W hG B hz (Or.inr ⟨i0, a, h4, h5, rfl⟩) K⟩
  · rename_i he
    obtain ⟨x, j, h1, h2, h3⟩ := zx_lk_B B he
    have h3 : x = .ref b := h3
    subst h3
    exact ⟨b, h2, zx_push_W hG B hz rfl K⟩
  · cases hz
theorem zx_B_lv {lv' : List (Nat × zx_V)} {lc' : List (Nat × Value)} {ls' : Array Slot} (B : zx_B D cl A b ex ad0 nL s ρ h lv sk H locs ls kc tys ws lc) (h6 : zx_F2 (fun x y => x.1 = y.1 ∧ zx_R b ex ρ (zx_as ws) x.2 y.2) lv' lc') (h7 : lv_has ls' nL lc') : zx_B D cl A b ex ad0 nL s ρ h lv' sk H locs ls' kc tys ws lc' := by
  obtain ⟨h1, h2, h3, h4, h5, -, -, h8⟩ := B
  exact ⟨h1, h2, h3, h4, h5, h6, h7, h8⟩
theorem zx_xst_ok {i d : Nat} (hG : zx_ok ρ G) (hM : zx_mV M = nL) (B : zx_B D cl A b ex ad0 nL s ρ h lv sk H locs ls kc tys ws lc) (hz : zx_xst M pc G h lv k sk i d = some z) (K : zx_KK p l e R s m args below meth c Q D cl A b ex ad0 nL ρ z) : ∃ (w : Int32) (kr : List Value), kc = .int w :: kr ∧ i < nL ∧ ∀ ls' : Array Slot, lv_has ls' nL ((i, Value.int w) :: lc.filter (fun q => !(q.1 == i) && !(q.1 + 1 == i && q.2.category == 2))) → W p l e R s m args below meth c H locs k.1 k.2 Q (F0 m (pc + d) ls' kr) := by
  unfold zx_xst at hz
  split at hz
  · rename_i e0 r
    obtain ⟨w, kr, h1, h2, B'⟩ := zx_topi B
    split at hz
    · rename_i hi
      refine ⟨w, kr, h1, by rw [← hM]; exact hi, fun ls' hl => ?_⟩
      exact zx_K1 K (zx_one hz) (zx_J_same hG (zx_B_lv B' (zx_st1_ok (v := .inl e0) (x := .int w) B.2.2.2.2.2.1 ⟨w, rfl, h2⟩) hl))
    · cases hz
  · cases hz
theorem zx_xlst_ok {i d : Nat} (hG : zx_ok ρ G) (hM : zx_mV M = nL) (B : zx_B D cl A b ex ad0 nL s ρ h lv sk H locs ls kc tys ws lc) (hz : zx_xlst M pc G h lv k sk i d = some z) (K : zx_KK p l e R s m args below meth c Q D cl A b ex ad0 nL ρ z) : ∃ (w : Int64) (kr : List Value), kc = .long w :: kr ∧ i + 1 < nL ∧ ∀ ls' : Array Slot, lv_has ls' nL ((i, Value.long w) :: lc.filter (fun q => !(q.1 == i) && (!(q.1 == i + 1) && !(q.1 + 1 == i && q.2.category == 2)))) → W p l e R s m args below meth c H locs k.1 k.2 Q (F0 m (pc + d) ls' kr) := by
  unfold zx_xlst at hz
  split at hz
  · rename_i r
    obtain ⟨w, kr, h1, B'⟩ := zx_topl B
    split at hz
    · rename_i hi
      refine ⟨w, kr, h1, by rw [← hM]; exact hi, fun ls' hl => ?_⟩
      exact zx_K1 K (zx_one hz) (zx_J_same hG (zx_B_lv B' (zx_st2_ok (v := zx_lg) (x := .long w) B.2.2.2.2.2.1 ⟨w, rfl⟩) hl))
    · cases hz
  · cases hz
theorem zx_xast_ok {i d : Nat} (hG : zx_ok ρ G) (hM : zx_mV M = nL) (B : zx_B D cl A b ex ad0 nL s ρ h lv sk H locs ls kc tys ws lc) (hz : zx_xast M pc G h lv k sk i d = some z) (K : zx_KK p l e R s m args below meth c Q D cl A b ex ad0 nL ρ z) : ∃ (w : Nat) (kr : List Value), kc = .ref w :: kr ∧ i < nL ∧ ∀ ls' : Array Slot, lv_has ls' nL ((i, Value.ref w) :: lc.filter (fun q => !(q.1 == i) && !(q.1 + 1 == i && q.2.category == 2))) → W p l e R s m args below meth c H locs k.1 k.2 Q (F0 m (pc + d) ls' kr) := by
  unfold zx_xast at hz
  split at hz
  · rename_i q0 r
    obtain ⟨x, kr, h1, h2, B'⟩ := zx_top1 B
    rcases h2 with ⟨h4, -⟩ | ⟨i0, a, h4, h5, h6⟩
    · cases h4
    · subst h6
      split at hz
      · rename_i hi
        refine ⟨a, kr, h1, by rw [← hM]; exact hi, fun ls' hl => ?_⟩
        exact zx_K1 K (zx_one hz) (zx_J_same hG (zx_B_lv B' (zx_st1_ok (v := .inr (.inl (q0, false))) (x := .ref a) B.2.2.2.2.2.1 (Or.inr ⟨i0, a, h4, h5, rfl⟩)) hl))
      · cases hz
  · cases hz
theorem zx_xinc_ok {i : Nat} {n : Int} (hG : zx_ok ρ G) (hM : zx_mV M = nL) (B : zx_B D cl A b ex ad0 nL s ρ h lv sk H locs ls kc tys ws lc) (hz : zx_xinc M pc G h lv k sk i n = some z) (K : zx_KK p l e R s m args below meth c Q D cl A b ex ad0 nL ρ z) : ∃ (w : Int32) (j : Nat), lc[j]? = some (i, .int w) ∧ i < nL ∧ ∀ ls' : Array Slot, lv_has ls' nL ((i, Value.int (w + Int32.ofInt n)) :: lc.filter (fun q => !(q.1 == i) && !(q.1 + 1 == i && q.2.category == 2))) → W p l e R s m args below meth c H locs k.1 k.2 Q (F0 m (pc + 3) ls' kc) := by
  unfold zx_xinc at hz
  split at hz
  · rename_i e0 he
    obtain ⟨x, j, h1, h2, w, h3, h4⟩ := zx_lk_B B he
    subst h3
    split at hz
    · rename_i hi
      simp only [Bool.and_eq_true, decide_eq_true_iff] at hi
      split at hz
      · rename_i r hr
        refine ⟨w, j, h1, by rw [← hM]; exact hi.1.1, fun ls' hl => ?_⟩
        have hn : (Int32.ofInt n).toInt = n := zx_ofI (by omega) (by omega)
        have hadd : zx_ev ρ (zx_add e0 ([], n)) = some (w.toInt + n) := zx_add_ev h4 (zx_ev_iff.mpr ⟨0, rfl, by simp⟩)
        obtain ⟨r2, g1, g2⟩ := zx_val_ok (b := b) (ex := ex) (ad := zx_as ws) hG hr hadd (w := w + Int32.ofInt n) (fun k1 k2 => by
          have h9 := zx_addI w (Int32.ofInt n) (by rw [hn]; exact k1) (by rw [hn]; exact k2)
          rw [h9, hn])
        have B2 := zx_B_up (r := r2) B
        exact zx_K1 K (zx_one hz) ⟨g1, tys, ws, _, zx_B_lv B2 (zx_st1_ok (v := r.2) (x := .int (w + Int32.ofInt n)) B2.2.2.2.2.2.1 g2) hl⟩
      · cases hz
    · cases hz
  · cases hz
theorem zx_xbin_ok {f : zx_L → zx_L → Option (zx_G × zx_V)} (B : zx_B D cl A b ex ad0 nL s ρ h lv sk H locs ls kc tys ws lc) (hz : zx_xbin pc h lv k sk f = some z) (K : zx_KK p l e R s m args below meth c Q D cl A b ex ad0 nL ρ z) : ∃ (x y : Int32) (kr : List Value) (e1 e2 : zx_L) (q : zx_G × zx_V), kc = .int y :: .int x :: kr ∧ zx_ev ρ e1 = some x.toInt ∧ zx_ev ρ e2 = some y.toInt ∧ f e1 e2 = some q ∧ ∀ v : Int32, zx_P b ex ρ (zx_as ws) q (.int v) → W p l e R s m args below meth c H locs k.1 k.2 Q (F0 m (pc + 1) ls (.int v :: kr)) := by
  unfold zx_xbin at hz
  split at hz
  · rename_i y x r
    obtain ⟨y', kr, h1, h2, B1⟩ := zx_topi B
    obtain ⟨x', kr', h3, h4, B2⟩ := zx_topi B1
    subst h3
    cases hf : f x y with
    | none => rw [hf] at hz; cases hz
    | some q =>
      rw [hf] at hz
      exact ⟨x', y', kr', x, y, q, h1, h4, h2, hf, fun v hv => zx_go_W B2 hz (fun q' hq' => by cases hq'; exact hv) K⟩
  · cases hz
theorem zx_xbr_ok {cn : ClassFile.Cond} {t : Nat} {d : zx_L} {v : Int} (hG : zx_ok ρ G) (B : zx_B D cl A b ex ad0 nL s ρ h lv sk H locs ls kc tys ws lc) (hv : zx_ev ρ d = some v) (hz : zx_xbr pc G h lv k cn t d sk = some z) (K : zx_KK p l e R s m args below meth c Q D cl A b ex ad0 nL ρ z) : (zx_holds cn v → W p l e R s m args below meth c H locs k.1 k.2 Q (F0 m t ls kc)) ∧ (¬ zx_holds cn v → W p l e R s m args below meth c H locs k.1 k.2 Q (F0 m (pc + 3) ls kc)) := by
  unfold zx_xbr at hz
  split at hz
  · rename_i q hq
    cases hz
    obtain ⟨h1, h2⟩ := zx_cmp_ok hG hv hq cn
    refine ⟨fun hh => ?_, fun hh => ?_⟩
    · obtain ⟨G', g1, g2⟩ := h1 hh
      exact zx_K1 K (List.mem_map.mpr ⟨_, g1, rfl⟩) (zx_J_same g2 B)
    · obtain ⟨G', g1, g2⟩ := h2 hh
      exact zx_K1 K (List.mem_map.mpr ⟨_, g1, rfl⟩) (zx_J_same g2 B)
  · cases hz
theorem zx_xif_ok {cn : ClassFile.Cond} {off : Int} (hG : zx_ok ρ G) (B : zx_B D cl A b ex ad0 nL s ρ h lv sk H locs ls kc tys ws lc) (hz : zx_xif pc G h lv k sk cn off = some z) (K : zx_KK p l e R s m args below meth c Q D cl A b ex ad0 nL ρ z) : ∃ (x : Int32) (kr : List Value) (t : Nat), kc = .int x :: kr ∧ (pc : Int) + off = (t : Int) ∧ (zx_holds cn x.toInt → W p l e R s m args below meth c H locs k.1 k.2 Q (F0 m t ls kr)) ∧ (¬ zx_holds cn x.toInt → W p l e R s m args below meth c H locs k.1 k.2 Q (F0 m (pc + 3) ls kr)) := by
  unfold zx_xif at hz
  split at hz
  · rename_i x r
    obtain ⟨x', kr, h1, h2, B1⟩ := zx_topi B
    split at hz
    · rename_i t ht
      exact ⟨x', kr, t, h1, zx_tg_ok ht, zx_xbr_ok hG B1 h2 hz K⟩
    · cases hz
  · cases hz
theorem zx_xicmp_ok {cn : ClassFile.Cond} {off : Int} (hG : zx_ok ρ G) (B : zx_B D cl A b ex ad0 nL s ρ h lv sk H locs ls kc tys ws lc) (hz : zx_xicmp pc G h lv k sk cn off = some z) (K : zx_KK p l e R s m args below meth c Q D cl A b ex ad0 nL ρ z) : ∃ (x y : Int32) (kr : List Value) (t : Nat), kc = .int y :: .int x :: kr ∧ (pc : Int) + off = (t : Int) ∧ (zx_holds cn (x.toInt - y.toInt) → W p l e R s m args below meth c H locs k.1 k.2 Q (F0 m t ls kr)) ∧ (¬ zx_holds cn (x.toInt - y.toInt) → W p l e R s m args below meth c H locs k.1 k.2 Q (F0 m (pc + 3) ls kr)) := by
  unfold zx_xicmp at hz
  split at hz
  · rename_i y x r
    obtain ⟨y', kr, h1, h2, B1⟩ := zx_topi B
    obtain ⟨x', kr', h3, h4, B2⟩ := zx_topi B1
    subst h3
    split at hz
    · rename_i t ht
      exact ⟨x', y', kr', t, h1, zx_tg_ok ht, zx_xbr_ok hG B2 (zx_sub_ev h4 h2) hz K⟩
    · cases hz
  · cases hz
theorem zx_xtab_ok {dflt lo hi : Int} {offs : Array Int} (hG : zx_ok ρ G) (B : zx_B D cl A b ex ad0 nL s ρ h lv sk H locs ls kc tys ws lc) (hz : zx_xtab pc G h lv k sk dflt lo hi offs = some z) (K : zx_KK p l e R s m args below meth c Q D cl A b ex ad0 nL ρ z) : ∃ (x : Int32) (kr : List Value) (t : Nat), kc = .int x :: kr ∧ W p l e R s m args below meth c H locs k.1 k.2 Q (F0 m t ls kr) ∧ (((x.toInt < lo ∨ hi < x.toInt) ∧ (pc : Int) + dflt = (t : Int)) ∨ (¬ x.toInt < lo ∧ ¬ hi < x.toInt ∧ ∃ off, offs[(x.toInt - lo).toNat]? = some off ∧ (pc : Int) + off = (t : Int))) := by
  unfold zx_xtab at hz
  split at hz
  · rename_i x r
    obtain ⟨x', kr, h1, h2, B1⟩ := zx_topi B
    split at hz
    · rename_i t0 ht0
      obtain ⟨G', g1, g2⟩ := zx_tcuts_ok hG (lo := lo) (hi := hi) h2 (zx_rng_ok hG ht0 h2)
      obtain ⟨y, h3, h4⟩ := zx_all_ok hz g1
      unfold zx_xtab1 at h3
      split at h3
      · rename_i t ht
        obtain ⟨q1, q2⟩ := zx_rng_ok g2 ht h2
        split at h3
        · rename_i ho
          split at h3
          · rename_i g hg
            exact ⟨x', kr, g, h1, zx_K1 K (h4 _ (zx_one h3)) (zx_J_same g2 B1), Or.inl ⟨by omega, zx_tg_ok hg⟩⟩
          · cases h3
        · rename_i ho
          split at h3
          · rename_i hc
            have hx : x'.toInt = t.1 := by omega
            split at h3
            · rename_i off hoff
              split at h3
              · rename_i g hg
                exact ⟨x', kr, g, h1, zx_K1 K (h4 _ (zx_one h3)) (zx_J_same g2 B1), Or.inr ⟨fun q => ho (Or.inl (by omega)), fun q => ho (Or.inr (by omega)), off, by rw [hx]; exact hoff, zx_tg_ok hg⟩⟩
              · cases h3
            · cases h3
          · cases h3
      · cases h3
    · cases hz
  · cases hz
end ZXW
end
section
/-! zx: instructions on cells -/
def zx_fd {α : Type} : List (Nat × α) → Nat → Option α
  | [], _ => none
  | q :: r, i => if q.1 = i then some q.2 else zx_fd r i
theorem zx_fd_mem {α : Type} {i : Nat} {v : α} : ∀ {l : List (Nat × α)}, zx_fd l i = some v → (i, v) ∈ l
  | [], h => nomatch h
  | q :: r, h => by
    rw [zx_fd] at h
    by_cases hq : q.1 = i
    · rw [if_pos hq] at h
      cases h
      rw [← hq]
      exact List.mem_cons_self
    · rw [if_neg hq] at h
      exact List.mem_cons_of_mem _ (zx_fd_mem h)
def zx_tag (ty : FieldType) : Nat := match ty with
  | .int => 0
  | .boolean => 1
  | .long => 2
  | .object _ => 3
  | .array _ => 3
  | _ => 9
def zx_dv (t : Nat) : zx_S := match t with
  | 2 => .inl zx_lg
  | 3 => .inl (.inr (.inl ([], true)))
  | _ => .inl (.inl ([], 0))
def zx_dV (t : Nat) : Value := match t with
  | 2 => .long 0
  | 3 => .null
  | _ => .int 0
theorem zx_dv_ok {b : Nat} {ex : List Nat} {ρ : List Int} {ad : List Nat} (t : Nat) : zx_RS b ex ρ ad (zx_dv t) (zx_dV t) := by
  unfold zx_dv zx_dV
  split
  · exact ⟨0, rfl⟩
  · exact Or.inl ⟨rfl, rfl⟩
  · exact ⟨0, rfl, rfl⟩
theorem zx_dV_ty {ty : FieldType} (h : zx_tag ty ≠ 9) : defaultValue ty = zx_dV (zx_tag ty) := by
  cases ty <;> first | rfl | exact absurd rfl h
/-- may stand in a field of that sort as it is -/
def zx_fit (G : zx_G) (t : Nat) (v : zx_V) : Bool := match v with
  | .inl e => match zx_rng G e with
    | some q => t == 0 || (t == 1 && zx_in q 0 1)
    | none => false
  | .inr (.inl _) => t == 3
  | .inr (.inr true) => t == 2
  | .inr (.inr false) => false
theorem zx_01 {w : Int32} (h1 : 0 ≤ w.toInt) (h2 : w.toInt ≤ 1) : w = 0 ∨ w = 1 := by
  rcases (by omega : w.toInt = 0 ∨ w.toInt = 1) with h | h
  · exact Or.inl (Int32.toInt_inj.mp h)
  · exact Or.inr (Int32.toInt_inj.mp h)
theorem zx_fit_ok {b : Nat} {ex : List Nat} {ρ : List Int} {ad : List Nat} {G : zx_G} {ty : FieldType} {v : zx_V} {x : Value} (hG : zx_ok ρ G) (h : zx_fit G (zx_tag ty) v = true) (hv : zx_R b ex ρ ad v x) : narrow ty x = x ∧ fits ty x = true := by
  rcases v with e | r | k
  · obtain ⟨w, h1, h2⟩ := hv
    subst h1
    unfold zx_fit at h
    dsimp only at h
    split at h
    · rename_i q hq
      obtain ⟨g1, g2⟩ := zx_rng_ok hG hq h2
      cases ty <;> first | exact ⟨rfl, rfl⟩ | (simp [zx_tag] at h; done) | skip
      simp only [zx_tag] at h
      have h3 : zx_in q 0 1 = true := by simpa using h
      obtain ⟨k1, k2⟩ := zx_in_iff.mp h3
      rcases zx_01 (w := w) (by omega) (by omega) with rfl | rfl
      · exact ⟨rfl, rfl⟩
      · exact ⟨rfl, rfl⟩
    · cases h
  · have hx : x = .null ∨ ∃ a, x = .ref a := by
      rcases hv with ⟨-, h1⟩ | ⟨i, a, -, -, h1⟩
      · exact Or.inl h1
      · exact Or.inr ⟨a, h1⟩
    cases ty <;> first | (simp [zx_fit, zx_tag] at h; done) | skip
    · rcases hx with rfl | ⟨a, rfl⟩ <;> exact ⟨rfl, rfl⟩
    · rcases hx with rfl | ⟨a, rfl⟩ <;> exact ⟨rfl, rfl⟩
  · cases k
    · cases h
    · obtain ⟨w, h1⟩ := hv
      subst h1
      cases ty <;> first | (simp [zx_fit, zx_tag] at h; done) | skip
      exact ⟨rfl, rfl⟩
/-- rows of numbers that never change -/
abbrev zx_Y : Type := List (Nat × List Int)
section ZXY
variable (M : zx_M) (Y : zx_Y) (pc : Nat) (G : zx_G) (h : List zx_C) (lv : List (Nat × zx_V)) (k : Nat × Nat) (sk : List zx_V)
def zx_xslot (r : List zx_V) (sl : zx_S) : zx_O := match sl with
  | .inl v => some [(pc, G, h, lv, v :: r, k)]
  | .inr t => zx_go pc h lv k r (some (zx_fr G t.1 t.2))
def zx_xget1 (q : Nat × Nat × Nat × Bool) (r : List zx_V) (id : Nat) : zx_O := if id < 64 then none else match h[id - 64]? with
  | some (.inl o) => if o.1 = q.1 then (match o.2[q.2.1]? with
    | some sl => zx_xslot (pc + 3) G h lv k r sl
    | none => none) else none
  | _ => none
def zx_xget (ix : Nat) : zx_O := match zx_mF M ix with
  | some q => (match sk with
    | .inr (.inl (ids, false)) :: r => zx_all (zx_xget1 pc G h lv k q r) ids
    | _ => none)
  | none => none
def zx_xput (ix : Nat) : zx_O := match zx_mF M ix with
  | some q => (match sk with
    | v :: .inr (.inl ([id], false)) :: r => if id < 64 then none else (match h[id - 64]? with
      | some (.inl o) => if o.1 = q.1 ∧ q.2.1 < o.2.length ∧ zx_fit G q.2.2.1 v = true ∧ (!q.2.2.2 || zx_mB M) = true then some [(pc + 3, G, h.set (id - 64) (.inl (o.1, o.2.set q.2.1 (.inl v))), lv, r, k)] else none
      | _ => none)
    | _ => none)
  | none => none
def zx_xal1 (r : List zx_V) (ar : Nat × Nat × Bool × List zx_S) (e : zx_L) (G1 : zx_G) : zx_O := match zx_rng G1 e with
  | none => none
  | some t => if 0 ≤ t.1 ∧ t.2 < (ar.2.1 : Int) then (if ar.2.2.1 = true then (match ar.2.2.2 with
      | sl :: _ => zx_xslot (pc + 1) G1 h lv k r sl
      | [] => none) else (if t.1 = t.2 then (match ar.2.2.2[t.1.toNat]? with
      | some sl => zx_xslot (pc + 1) G1 h lv k r sl
      | none => none) else none)) else none
def zx_xal2 (ok : Nat → Bool) (r : List zx_V) (e : zx_L) (id : Nat) : zx_O := if id < 64 then none else match h[id - 64]? with
  | some (.inr (.inl ar)) => if ok ar.1 = true then (if ar.2.2.1 = true then zx_xal1 pc h lv k r ar e G else (match zx_split G e with
    | some l => zx_all (zx_xal1 pc h lv k r ar e) l
    | none => none)) else none
  | _ => none
def zx_xal (ok : Nat → Bool) : zx_O := match sk with
  | .inl e :: .inr (.inl (ids, false)) :: r => zx_all (zx_xal2 pc G h lv k ok r e) ids
  | _ => none
def zx_xyl1 (r : List zx_V) (row : List Int) (e : zx_L) (G1 : zx_G) : zx_O := match zx_rng G1 e with
  | none => none
  | some t => if 0 ≤ t.1 ∧ t.1 = t.2 ∧ t.2 < (row.length : Int) then some [(pc + 1, G1, h, lv, .inl ([], row.getD t.1.toNat 0) :: r, k)] else none
/-- of a row that never changes -/
def zx_xyl : zx_O := match sk with
  | .inl e :: .inr (.inl ([id], false)) :: r => (match zx_fd Y id with
    | some row => (match zx_split G e with
      | some l => zx_all (zx_xyl1 pc h lv k r row e) l
      | none => none)
    | none => none)
  | _ => none
def zx_xyn : zx_O := match sk with
  | .inr (.inl ([id], false)) :: r => (match zx_fd Y id with
    | some row => if row.length < 2147483648 then some [(pc + 1, G, h, lv, .inl ([], (row.length : Int)) :: r, k)] else none
    | none => none)
  | _ => none
/-- of the script: at a place that is known, behind which the script goes on -/
def zx_xsl : zx_O := match sk with
  | .inl e :: .inr (.inr false) :: r => (match zx_rng G e, G[0]? with
    | some t, some b0 => if 0 ≤ t.1 ∧ t.1 = t.2 ∧ t.1 < 6 ∧ t.1 < b0.1 ∧ zx_mX M = true then some [(pc + 1, G, h, lv, .inl ([(1 + t.1.toNat, 1)], 0) :: r, k)] else none
    | _, _ => none)
  | _ => none
def zx_xsn : zx_O := match sk with
  | .inr (.inr false) :: r => if zx_mX M = true then some [(pc + 1, G, h, lv, .inl ([(0, 1)], 0) :: r, k)] else none
  | _ => none
def zx_xas1 (r : List zx_V) (id : Nat) (ar : Nat × Nat × Bool × List zx_S) (v : zx_V) (e : zx_L) (G1 : zx_G) : zx_O := match zx_rng G1 e with
  | none => none
  | some t => if 0 ≤ t.1 ∧ t.1 = t.2 ∧ t.2 < (ar.2.1 : Int) then some [(pc + 1, G1, h.set (id - 64) (.inr (.inl (ar.1, ar.2.1, false, ar.2.2.2.set t.1.toNat (.inl v)))), lv, r, k)] else none
/-- into a row of ints, bytes, booleans: what fits as it is -/
def zx_bok (by_ : Bool) (t : Nat) (tv : Int × Int) : Bool := match by_ with
  | true => (t == 1 && zx_in tv (-128) 127) || (t == 2 && zx_in tv 0 1)
  | false => t == 0
def zx_xas (by_ : Bool) : zx_O := match sk with
  | .inl v :: .inl e :: .inr (.inl ([id], false)) :: r => if id < 64 then none else (match h[id - 64]?, zx_rng G v, zx_rng G e with
    | some (.inr (.inl ar)), some tv, some te => if zx_bok by_ ar.1 tv = true then (if ar.2.2.1 = true then (match ar.2.2.2 with
        | [.inr t] => if 0 ≤ te.1 ∧ te.2 < (ar.2.1 : Int) ∧ zx_in tv t.1 t.2 = true then some [(pc + 1, G, h, lv, r, k)] else none
        | _ => none) else (match zx_split G e with
        | some l => zx_all (zx_xas1 pc h lv k r id ar (.inl v) e) l
        | none => none)) else none
    | _, _, _ => none)
  | _ => none
/-- into a row of references: an object of just that class -/
def zx_xqs : zx_O := match sk with
  | .inr (.inl ([iv], false)) :: .inl e :: .inr (.inl ([id], false)) :: r => if id < 64 ∨ iv < 64 then none else (match h[id - 64]?, h[iv - 64]? with
    | some (.inr (.inl ar)), some (.inl o) => if ar.1 = 3 + o.1 ∧ ar.2.2.1 = false then (match zx_split G e with
        | some l => zx_all (zx_xas1 pc h lv k r id ar (.inr (.inl ([iv], false))) e) l
        | none => none) else none
    | _, _ => none)
  | _ => none
def zx_xlen1 (r : List zx_V) (id : Nat) : zx_O := if id < 64 then none else match h[id - 64]? with
  | some (.inr (.inl ar)) => if ar.2.1 < 2147483648 then some [(pc + 1, G, h, lv, .inl ([], (ar.2.1 : Int)) :: r, k)] else none
  | _ => none
def zx_xlen : zx_O := match sk with
  | .inr (.inl (ids, false)) :: r => zx_all (zx_xlen1 pc G h lv k r) ids
  | _ => none
def zx_at (a : ArrayType) : Nat := match a with
  | .int => 0
  | .byte => 1
  | .boolean => 2
  | .long => 3
  | _ => 9
def zx_xnew (ix : Nat) (dt : List (List Nat)) : zx_O := match zx_mC M ix with
  | some ci => (match dt[ci]? with
    | some d => if ix < 65536 ∧ k.1 + 1 ≤ (zx_mR M).1 ∧ k.2 + d.length ≤ (zx_mR M).2 then some [(pc + 3, G, h ++ [.inl (ci, d.map zx_dv)], lv, .inr (.inl ([64 + h.length], false)) :: sk, (k.1 + 1, k.2 + d.length))] else none
    | none => none)
  | none => none
def zx_xna (at_ : ArrayType) : zx_O := match sk with
  | .inl e :: r => if zx_isc e = true ∧ 0 ≤ e.2 ∧ e.2 ≤ 1000000 ∧ k.1 + 1 ≤ (zx_mR M).1 ∧ k.2 + e.2.toNat ≤ (zx_mR M).2 then (if zx_at at_ = 3 then some [(pc + 2, G, h ++ [.inr (.inr e.2.toNat)], lv, .inr (.inl ([64 + h.length], false)) :: r, (k.1 + 1, k.2 + e.2.toNat))] else if zx_at at_ < 3 then (match zx_mN M pc with
      | some (true, lo, hi) => if lo ≤ 0 ∧ 0 ≤ hi then some [(pc + 2, G, h ++ [.inr (.inl (zx_at at_, e.2.toNat, true, [.inr (lo, hi)]))], lv, .inr (.inl ([64 + h.length], false)) :: r, (k.1 + 1, k.2 + e.2.toNat))] else none
      | some (false, _) => some [(pc + 2, G, h ++ [.inr (.inl (zx_at at_, e.2.toNat, false, List.replicate e.2.toNat (.inl (.inl ([], 0)))))], lv, .inr (.inl ([64 + h.length], false)) :: r, (k.1 + 1, k.2 + e.2.toNat))]
      | none => none) else none) else none
  | _ => none
def zx_xnq (ix : Nat) : zx_O := match sk with
  | .inl e :: r => (match zx_mC M (ix + 65536) with
    | some ci => if ix < 65536 ∧ zx_isc e = true ∧ 0 ≤ e.2 ∧ e.2 ≤ 1000000 ∧ k.1 + 1 ≤ (zx_mR M).1 ∧ k.2 + e.2.toNat ≤ (zx_mR M).2 then some [(pc + 3, G, h ++ [.inr (.inl (3 + ci, e.2.toNat, false, List.replicate e.2.toNat (.inl (.inr (.inl ([], true))))))], lv, .inr (.inl ([64 + h.length], false)) :: r, (k.1 + 1, k.2 + e.2.toNat))] else none
    | none => none)
  | _ => none
def zx_xgs (ix : Nat) : zx_O := match zx_mS M ix with
  | some id => if id < 64 then some [(pc + 3, G, h, lv, .inr (.inl ([id], false)) :: sk, k)] else none
  | none => none
end ZXY
end
section
/-! zx: what the instructions on cells do is what the machine does -/
/-- statics that hold a reference, and rows of numbers behind them -/
def zx_CX (ex : List Nat) (A : Nat → Prop) (U : State) (H : Heap) (sts : List (String × String × String × Nat)) (Y : zx_Y) : Prop :=
  (∀ q ∈ sts, ∃ a, ex[q.2.2.2]? = some a ∧ va_Z q.1 q.2.1 q.2.2.1 (.ref a) A U H) ∧
  (∀ q ∈ Y, ∃ a, q.1 < 64 ∧ ex[q.1]? = some a ∧ (∀ n ∈ q.2, -2147483648 ≤ n ∧ n ≤ 2147483647) ∧ va_T .int a q.2.length (fun j => .int (Int32.ofInt (q.2.getD j 0))) A U H)
def zx_CK (cl : List vw_C) (Ts : List Jvm.Cond) (dt : List (List Nat)) : Prop :=
  ∀ (ci : Nat) (C : String) (T : u_T) (N : Nat), cl[ci]? = some (C, T, N) → (∀ w ∈ u_ws C T N, w ∈ Ts) ∧ ∃ ty : Nat → FieldType, (∀ k, k < N → parseFieldDescriptor (T k).2.2.1 = some (ty k)) ∧ (∀ a, a < N → ∀ b, b < N → a ≠ b → (T a).2.1 ≠ (T b).2.1) ∧ ∀ d, dt[ci]? = some d → d.length = N ∧ ∀ j, j < N → d[j]? = some (zx_tag (ty j)) ∧ zx_tag (ty j) ≠ 9
def zx_MK (own : String) (cl : List vw_C) (Ts nw : List Jvm.Cond) (sts : List (String × String × String × Nat)) (aos : List String) (M : zx_M) : Prop :=
  (∀ ix q, zx_mF M ix = some q → ∃ (C : String) (T : u_T) (N : Nat) (ty : FieldType), cl[q.1]? = some (C, T, N) ∧ q.2.1 < N ∧ Jvm.Cond.fieldLink own ix (T q.2.1).1 (T q.2.1).2.1 (T q.2.1).2.2.1 ∈ Ts ∧ parseFieldDescriptor (T q.2.1).2.2.1 = some ty ∧ zx_tag ty = q.2.2.1 ∧ (T q.2.1).2.2.2 = q.2.2.2 ∧ (q.2.2.2 = true → (T q.2.1).1 = own ∨ zx_mB M = false)) ∧
  (∀ ix id, zx_mS M ix = some id → ∃ t ∈ sts, t.2.2.2 = id ∧ (Jvm.Cond.fieldLink own ix t.1 t.2.1 t.2.2.1 ∈ Ts ∨ ∃ host, Jvm.Cond.fieldLinkNest own ix t.1 t.2.1 t.2.2.1 host ∈ nw)) ∧
  (∀ ix ci, zx_mC M ix = some ci → ∃ (C : String) (T : u_T) (N : Nat), cl[ci]? = some (C, T, N) ∧ (ix < 65536 → Jvm.Cond.classLink own ix C ∈ Ts ∧ Jvm.Cond.instantiable C N ∈ Ts ∧ Jvm.Cond.initialized C ∈ Ts) ∧ (65536 ≤ ix → Jvm.Cond.classLink own (ix - 65536) C ∈ Ts ∧ C ∈ aos)) ∧
  (∀ ix n, zx_mI M ix = some n → ∃ w : Int32, w.toInt = n ∧ Jvm.Cond.constant own ix w ∈ Ts) ∧
  (∀ ix, zx_mL M ix = true → ∃ w : Int64, Jvm.Cond.constantLong own ix w ∈ Ts)
/-- a frame, and what goes with it -/
def zx_FX (p : Program) (s : State) (m : MethodId) (args : Array Value) (meth : Method) (c : Code) (R : Room) (cc : ByteArray) (own : String) (Ts nw : List Jvm.Cond) (cl : List vw_C) (A : Nat → Prop) (ex : List Nat) (nL : Nat) (sts : List (String × String × String × Nat)) (Y : zx_Y) (aos : List String) (dt : List (List Nat)) (M : zx_M) : Prop :=
  p.tables.exec = Jvm.exec ∧ c.code = cc ∧ s.vm.findClass own = some m.cls ∧ (∀ w ∈ Ts, w.before args s = true) ∧ (∀ w ∈ nw, va_Nw w s) ∧ (∀ q, s.heap.size ≤ q → A q) ∧ (R.cells = (zx_mR M).1 ∧ R.slots = (zx_mR M).2) ∧ (zx_mB M = true → meth.name = "<init>") ∧ zx_mV M = nL ∧ zx_CX ex A s s.heap sts Y ∧ (∀ C ∈ aos, va_AO C s) ∧ zx_CK cl Ts dt ∧ zx_MK own cl Ts nw sts aos M
/-- the script, where there is one -/
def zx_SX (b : Nat) (xs : Nat → Int32) (A : Nat → Prop) (s : State) (M : zx_M) (ρ : List Int) : Prop :=
  zx_mX M = true → ∃ L : Nat, va_X b L xs s s.heap ∧ b < s.heap.size ∧ ¬ A b ∧ L < 2 ^ 31 ∧ ρ[0]? = some (L : Int) ∧ ∀ j, j < 6 → ρ[1 + j]? = some (xs j).toInt
theorem zx_set_same {α : Type} {l : List α} {i : Nat} {a : α} (h : l[i]? = some a) : l.set i a = l := by
  apply List.ext_getElem?
  intro j
  rw [List.getElem?_set]
  by_cases hj : i = j
  · subst hj
    rw [if_pos rfl, if_pos (List.getElem?_eq_some_iff.mp h).1, h]
  · rw [if_neg hj]
theorem zx_as_set {ws : va_W} {i a : Nat} {e0 e : va_E} (h : ws[i]? = some (a, e0)) : zx_as (ws.set i (a, e)) = zx_as ws := by
  unfold zx_as
  rw [List.map_set]
  refine zx_set_same ?_
  rw [List.getElem?_map, h]
  rfl
section ZXH
variable {p : Program} {l : Launch} {e : Env} {R : Room} {s : State} {m : MethodId} {args : Array Value} {below : List Frame} {meth : Method} {c : Code} {Q : State → Prop}
variable {D : va_G} {cl : List vw_C} {A : Nat → Prop} {b : Nat} {ex ad0 : List Nat} {nL : Nat} {ρ : List Int} {G : zx_G} {h : List zx_C} {lv : List (Nat × zx_V)} {k : Nat × Nat} {sk : List zx_V} {H : Heap} {locs : List Loc} {ls : Array Slot} {kc : List Value} {tys : List (ClassId × FieldType)} {ws : va_W} {lc : List (Nat × Value)}
variable {cc : ByteArray} {pc : Nat} {M : zx_M} {z : List (Nat × zx_T)} {own : String} {Ts nw : List Jvm.Cond} {sts : List (String × String × String × Nat)} {Y : zx_Y} {aos : List String} {dt : List (List Nat)} {xs : Nat → Int32}
theorem zx_cell (B : zx_B D cl A b ex ad0 nL s ρ h lv sk H locs ls kc tys ws lc) {i a : Nat} {q : zx_C} (hi : ¬ i < 64) (ha : zx_ad ex (zx_as ws) i = some a) (hc : h[i - 64]? = some q) : ∃ en, ws[i - 64]? = some (a, en) ∧ zx_RC cl b ex ρ (zx_as ws) tys q en := by
  obtain ⟨⟨a', en⟩, h1, h2⟩ := zx_F2_get B.2.2.2.2.1 hc
  rw [zx_ad, if_neg hi, List.getElem?_map, h1] at ha
  have h3 : a' = a := Option.some.inj ha
  subst h3
  exact ⟨en, h1, h2⟩
theorem zx_B_set (B : zx_B D cl A b ex ad0 nL s ρ h lv sk H locs ls kc tys ws lc) {i a : Nat} {e0 en : va_E} {q : zx_C} (hw : ws[i]? = some (a, e0)) (hq : zx_RC cl b ex ρ (zx_as ws) tys q en) {H1 : Heap} {locs1 : List Loc} (P1 : va_P D cl (ws.set i (a, en)) H1) (D1 : va_D A (ws.set i (a, en))) (S1 : va_S A s.heap H1 locs1) : zx_B D cl A b ex ad0 nL s ρ (h.set i q) lv sk H1 locs1 ls kc tys (ws.set i (a, en)) lc := by
  obtain ⟨h1, h2, h3, h4, h5, h6, h7, h8⟩ := B
  refine ⟨h1, P1, D1, ⟨S1, by rw [zx_as_set hw]; exact h4.2⟩, ?_, ?_, h7, ?_⟩
  · rw [zx_as_set hw]
    exact zx_F2_set (R := fun c q => zx_RC cl b ex ρ (zx_as ws) tys c q.2) (b := (a, en)) hq i h5
  · rw [zx_as_set hw]; exact h6
  · rw [zx_as_set hw]; exact h8
theorem zx_xslot_W {pc' : Nat} {sl : zx_S} {x : Value} (hG : zx_ok ρ G) (B : zx_B D cl A b ex ad0 nL s ρ h lv sk H locs ls kc tys ws lc) (hz : zx_xslot pc' G h lv k sk sl = some z) (hx : zx_RS b ex ρ (zx_as ws) sl x) (K : zx_KK p l e R s m args below meth c Q D cl A b ex ad0 nL ρ z) : W p l e R s m args below meth c H locs k.1 k.2 Q (F0 m pc' ls (x :: kc)) := by
  unfold zx_xslot at hz
  rcases sl with v | t
  · exact zx_push_W hG B hz hx K
  · obtain ⟨w, h1, h2, h3⟩ := hx
    subst h1
    refine zx_go_W B hz (fun q hq => ?_) K
    cases hq
    exact zx_fr_ok hG h2 h3
theorem zx_xget_ok {ix : Nat} (F : zx_FX p s m args meth c R cc own Ts nw cl A ex nL sts Y aos dt M) (hd : decode cc pc = .ok (.getfield ix, 3)) (hG : zx_ok ρ G) (B : zx_B D cl A b ex ad0 nL s ρ h lv sk H locs ls kc tys ws lc) (hz : zx_xget M pc G h lv k sk ix = some z) (K : zx_KK p l e R s m args below meth c Q D cl A b ex ad0 nL ρ z) : W p l e R s m args below meth c H locs k.1 k.2 Q (F0 m pc ls kc) := by
  obtain ⟨hx, hb, hown, hts, hnw, hA, hR, hin, hnL, hCX, hao, hCK, hMK⟩ := F
  unfold zx_xget at hz
  split at hz
  · rename_i q hq
    split at hz
    · rename_i ids r
      obtain ⟨x, kr, rfl, hv, B1⟩ := zx_top1 B
      rcases hv with ⟨h4, -⟩ | ⟨i0, a, h4, h5, rfl⟩
      · cases h4
      · obtain ⟨y, h6, h7⟩ := zx_all_ok hz h4
        have K' : zx_KK p l e R s m args below meth c Q D cl A b ex ad0 nL ρ y := fun q hq => K q (h7 q hq)
        unfold zx_xget1 at h6
        split at h6
        · cases h6
        · rename_i hi
          split at h6
          · rename_i o ho
            split at h6
            · rename_i hoq
              split at h6
              · rename_i sl hsl
                obtain ⟨en, g1, fs, rfl, g2⟩ := zx_cell B1 hi h5 ho
                obtain ⟨fv, g3, g4⟩ := zx_F2_get g2 hsl
                obtain ⟨C, T, N, ty, m1, m2, m3, m4, m5, m6, m7⟩ := hMK.1 ix q hq
                exact va_get (D := D) (C := C) (T := T) (N := N) hx hb hts (hCK _ _ _ _ m1).1 hown B1.1 B1.2.1 (i0 - 64) g1 (by rw [hoq]; exact m1) q.2.1 m2 (hts _ m3) (fun _ h9 => h9) g3 hd (zx_xslot_W hG B1 h6 g4 K')
              · cases h6
            · cases h6
          · cases h6
    · cases hz
  · cases hz
theorem zx_xput_ok {ix : Nat} (F : zx_FX p s m args meth c R cc own Ts nw cl A ex nL sts Y aos dt M) (hd : decode cc pc = .ok (.putfield ix, 3)) (hG : zx_ok ρ G) (B : zx_B D cl A b ex ad0 nL s ρ h lv sk H locs ls kc tys ws lc) (hz : zx_xput M pc G h lv k sk ix = some z) (K : zx_KK p l e R s m args below meth c Q D cl A b ex ad0 nL ρ z) : W p l e R s m args below meth c H locs k.1 k.2 Q (F0 m pc ls kc) := by
  obtain ⟨hx, hb, hown, hts, hnw, hA, hR, hin, hnL, hCX, hao, hCK, hMK⟩ := F
  unfold zx_xput at hz
  split at hz
  · rename_i q hq
    split at hz
    · rename_i v id r
      obtain ⟨x, kr0, rfl, hv, B0⟩ := zx_top1 B
      obtain ⟨x2, kr, rfl, hv2, B1⟩ := zx_top1 B0
      split at hz
      · cases hz
      · rename_i hi
        rcases hv2 with ⟨h4, -⟩ | ⟨i0, a, h4, h5, rfl⟩
        · cases h4
        · have hid : i0 = id := List.mem_singleton.mp h4
          subst hid
          split at hz
          · rename_i o ho
            split at hz
            · rename_i hc
              obtain ⟨c1, c2, c3, c4⟩ := hc
              obtain ⟨en, g1, fs, rfl, g2⟩ := zx_cell B1 hi h5 ho
              obtain ⟨C, T, N, ty, m1, m2, m3, m4, m5, m6, m7⟩ := hMK.1 ix q hq
              obtain ⟨u1, ty0, u2, u3, -⟩ := hCK _ _ _ _ m1
              obtain ⟨n1, n2⟩ := zx_fit_ok (ty := ty) hG (by rw [m5]; exact c3) hv
              have hl : q.2.1 < fs.length := by rw [← zx_F2_len g2]; exact c2
              have fin : ∀ (H1 : Heap) (locs1 : List Loc), va_P D cl (ws.set (i0 - 64) (a, .inr (o.1, fs.set q.2.1 x))) H1 → va_D A (ws.set (i0 - 64) (a, .inr (o.1, fs.set q.2.1 x))) → va_S A s.heap H1 locs1 → W p l e R s m args below meth c H1 locs1 k.1 k.2 Q (F0 m (pc + 3) ls kr) := by
                intro H1 locs1 P1 D1 S1
                refine zx_K1 K (zx_one hz) (zx_J_same hG (zx_B_set B1 g1 ?_ P1 D1 S1))
                exact ⟨fs.set q.2.1 x, rfl, zx_F2_set (R := zx_RS b ex ρ (zx_as ws)) (a := .inl v) hv q.2.1 g2⟩
              cases hf : q.2.2.2 with
              | false => exact va_put (D := D) (C := C) (T := T) (N := N) hx hb hts u1 ty0 u2 u3 hown B1.1 B1.2.1 B1.2.2.1 B1.2.2.2.1.1 (i0 - 64) g1 (by rw [c1]; exact m1) q.2.1 m2 (hts _ m3) (fun _ h9 => h9) (by rw [m6]; exact hf) m4 n1 n2 hl hd fin
              | true =>
                have hB : zx_mB M = true := by
                  rw [hf] at c4
                  simpa using c4
                have hdecl : (T q.2.1).1 = own := by
                  rcases m7 hf with g | g
                  · exact g
                  · rw [hB] at g; cases g
                exact va_putF (D := D) (C := C) (T := T) (N := N) hx hb hts u1 ty0 u2 u3 hown B1.1 B1.2.1 B1.2.2.1 B1.2.2.2.1.1 (i0 - 64) g1 (by rw [c1]; exact m1) q.2.1 m2 (hts _ m3) (fun _ h9 => h9) (by rw [m6]; exact hf) (hin hB) hdecl m4 n1 n2 hl hd fin
            · cases hz
          · cases hz
    · cases hz
  · cases hz
theorem zx_cl {w : Int32} {t : Int} (h : w.toInt = t) : w.toNatClampNeg = t.toNat := by rw [← h]; rfl
theorem zx_xal1_W {pc' : Nat} {ar : Nat × Nat × Bool × List zx_S} {e1 : zx_L} {G1 : zx_G} {w : Int32} {el : Nat → Value} (hG : zx_ok ρ G1) (B : zx_B D cl A b ex ad0 nL s ρ h lv sk H locs ls kc tys ws lc) (he : zx_ev ρ e1 = some w.toInt) (hz : zx_xal1 pc' h lv k sk ar e1 G1 = some z) (hel : zx_RA b ex ρ (zx_as ws) ar.2.1 ar.2.2.1 ar.2.2.2 el) (K : zx_KK p l e R s m args below meth c Q D cl A b ex ad0 nL ρ z) : vp_in w ar.2.1 ∧ W p l e R s m args below meth c H locs k.1 k.2 Q (F0 m (pc' + 1) ls (el w.toNatClampNeg :: kc)) := by
  unfold zx_xal1 at hz
  split at hz
  · cases hz
  · rename_i t ht
    obtain ⟨q1, q2⟩ := zx_rng_ok hG ht he
    split at hz
    · rename_i hc
      obtain ⟨c1, c2⟩ := hc
      refine ⟨vp_in_iff.mpr ⟨by omega, by omega⟩, ?_⟩
      have hw : w.toNatClampNeg < ar.2.1 := by
        show w.toInt.toNat < ar.2.1
        omega
      split at hz
      · rename_i hs
        rw [hs] at hel
        obtain ⟨sl, h1, h2⟩ := hel
        rw [h1] at hz
        exact zx_xslot_W hG B hz (h2 _ hw) K
      · rename_i hs
        have hs : ar.2.2.1 = false := by simpa using hs
        rw [hs] at hel
        split at hz
        · rename_i hte
          split at hz
          · rename_i sl hsl
            refine zx_xslot_W hG B hz ?_ K
            have h3 : w.toNatClampNeg = t.1.toNat := zx_cl (by omega)
            rw [h3]
            exact hel.2 _ _ hsl
          · cases hz
        · cases hz
    · cases hz
theorem zx_xal_ok {ok : Nat → Bool} (hG : zx_ok ρ G) (B : zx_B D cl A b ex ad0 nL s ρ h lv sk H locs ls kc tys ws lc) (hz : zx_xal pc G h lv k sk ok = some z) (K : zx_KK p l e R s m args below meth c Q D cl A b ex ad0 nL ρ z) : ∃ (w : Int32) (a : Nat) (kr : List Value) (i0 t0 : Nat) (cA : ClassId) (tg n : Nat), kc = .int w :: .ref a :: kr ∧ ok tg = true ∧ tys[t0]? = some (cA, zx_ty cl tg) ∧ vp_in w n ∧
    ((tg < 3 ∧ ∃ f : Nat → Int32, ws[i0]? = some (a, .inl (cA, n, .inl f)) ∧ W p l e R s m args below meth c H locs k.1 k.2 Q (F0 m (pc + 1) ls (.int (f w.toNatClampNeg) :: kr))) ∨
     (3 ≤ tg ∧ ∃ f : Nat → Option Nat, ws[i0]? = some (a, .inl (cA, n, .inr (.inr (.inr (.inr f))))) ∧ W p l e R s m args below meth c H locs k.1 k.2 Q (F0 m (pc + 1) ls (va_rf (f w.toNatClampNeg) :: kr)))) := by
  unfold zx_xal at hz
  split at hz
  · rename_i e1 ids r
    obtain ⟨w, kr0, rfl, he, B0⟩ := zx_topi B
    obtain ⟨x2, kr, rfl, hv2, B1⟩ := zx_top1 B0
    rcases hv2 with ⟨h4, -⟩ | ⟨i0, a, h4, h5, rfl⟩
    · cases h4
    · obtain ⟨y, h6, h7⟩ := zx_all_ok hz h4
      have K' : zx_KK p l e R s m args below meth c Q D cl A b ex ad0 nL ρ y := fun q hq => K q (h7 q hq)
      unfold zx_xal2 at h6
      split at h6
      · cases h6
      · rename_i hi
        split at h6
        · rename_i ar har
          split at h6
          · rename_i hok
            obtain ⟨en, g1, cA, t0, g2, g3⟩ := zx_cell B1 hi h5 har
            have main : ∀ (el : Nat → Value), zx_RA b ex ρ (zx_as ws) ar.2.1 ar.2.2.1 ar.2.2.2 el → vp_in w ar.2.1 ∧ W p l e R s m args below meth c H locs k.1 k.2 Q (F0 m (pc + 1) ls (el w.toNatClampNeg :: kr)) := by
              intro el hel
              split at h6
              · exact zx_xal1_W hG B1 he h6 hel K'
              · split at h6
                · rename_i gs hgs
                  obtain ⟨G', k1, k2⟩ := zx_split_ok hG he hgs
                  obtain ⟨y2, k3, k4⟩ := zx_all_ok h6 k1
                  exact zx_xal1_W k2 B1 he k3 hel (fun q hq => K' q (k4 q hq))
                · cases h6
            rcases g3 with ⟨g3, f, rfl, g4⟩ | ⟨g3, f, rfl, g4⟩
            · obtain ⟨r1, r2⟩ := main _ g4
              exact ⟨w, a, kr, i0 - 64, t0, cA, ar.1, ar.2.1, rfl, hok, g2, r1, Or.inl ⟨g3, f, g1, r2⟩⟩
            · obtain ⟨r1, r2⟩ := main _ g4
              exact ⟨w, a, kr, i0 - 64, t0, cA, ar.1, ar.2.1, rfl, hok, g2, r1, Or.inr ⟨g3, f, g1, r2⟩⟩
          · cases h6
        · cases h6
  · cases hz
end ZXH
end
section
/-! zx: rows written, lengths, new things, statics, the script -/
theorem zx_nar01 {w : Int32} (h1 : 0 ≤ w.toInt) (h2 : w.toInt ≤ 1) : vp_nar .boolean w = w := by
  rcases zx_01 h1 h2 with rfl | rfl <;> rfl
theorem zx_nar8 {w : Int32} (h1 : -128 ≤ w.toInt) (h2 : w.toInt ≤ 127) : vp_nar .byte w = w := by
  rw [vp_nar_byte]
  refine Int32.toInt_inj.mp ?_
  rw [Int8.toInt_toInt32, Int32.toInt_toInt8]
  exact Int.bmod_eq_of_le (by omega) (by omega)
theorem zx_RA_put {b : Nat} {ex : List Nat} {ρ : List Int} {ad : List Nat} {n : Nat} {l : List zx_S} {el : Nat → Value} {v : zx_V} {x : Value} {j : Nat} (h : zx_RA b ex ρ ad n false l el) (hv : zx_R b ex ρ ad v x) : zx_RA b ex ρ ad n false (l.set j (.inl v)) (fun i => if i = j then x else el i) := by
  refine ⟨by rw [List.length_set]; exact h.1, fun i t ht => ?_⟩
  rw [List.getElem?_set] at ht
  show zx_RS b ex ρ ad t (if i = j then x else el i)
  by_cases hj : j = i
  · subst hj
    rw [if_pos rfl] at ht ⊢
    split at ht
    · cases ht; exact hv
    · cases ht
  · rw [if_neg hj] at ht
    rw [if_neg (fun q => hj q.symm)]
    exact h.2 i t ht
theorem zx_RA_eq {b : Nat} {ex : List Nat} {ρ : List Int} {ad : List Nat} {n : Nat} {sm : Bool} {l : List zx_S} {el el' : Nat → Value} (h : zx_RA b ex ρ ad n sm l el) (he : ∀ i, el i = el' i) : zx_RA b ex ρ ad n sm l el' := by
  have : el = el' := funext he
  rw [← this]; exact h
section ZXI
variable {p : Program} {l : Launch} {e : Env} {R : Room} {s : State} {m : MethodId} {args : Array Value} {below : List Frame} {meth : Method} {c : Code} {Q : State → Prop}
variable {D : va_G} {cl : List vw_C} {A : Nat → Prop} {b : Nat} {ex ad0 : List Nat} {nL : Nat} {ρ : List Int} {G : zx_G} {h : List zx_C} {lv : List (Nat × zx_V)} {k : Nat × Nat} {sk : List zx_V} {H : Heap} {locs : List Loc} {ls : Array Slot} {kc : List Value} {tys : List (ClassId × FieldType)} {ws : va_W} {lc : List (Nat × Value)}
variable {cc : ByteArray} {pc : Nat} {M : zx_M} {z : List (Nat × zx_T)} {own : String} {Ts nw : List Jvm.Cond} {sts : List (String × String × String × Nat)} {Y : zx_Y} {aos : List String} {dt : List (List Nat)} {xs : Nat → Int32}
/-- what the writing of a place leaves -/
theorem zx_xas1_W {id a : Nat} {ar : Nat × Nat × Bool × List zx_S} {v : zx_V} {e1 : zx_L} {G1 : zx_G} {w : Int32} (hG : zx_ok ρ G1) (B : zx_B D cl A b ex ad0 nL s ρ h lv sk H locs ls kc tys ws lc) (he : zx_ev ρ e1 = some w.toInt) (hz : zx_xas1 pc h lv k sk id ar v e1 G1 = some z) (K : zx_KK p l e R s m args below meth c Q D cl A b ex ad0 nL ρ z) {en en' : va_E} (hw : ws[id - 64]? = some (a, en)) (hq : zx_RC cl b ex ρ (zx_as ws) tys (.inr (.inl (ar.1, ar.2.1, false, ar.2.2.2.set w.toNatClampNeg (.inl v)))) en') : vp_in w ar.2.1 ∧ ∀ (H1 : Heap) (locs1 : List Loc), va_P D cl (ws.set (id - 64) (a, en')) H1 → va_D A (ws.set (id - 64) (a, en')) → va_S A s.heap H1 locs1 → W p l e R s m args below meth c H1 locs1 k.1 k.2 Q (F0 m (pc + 1) ls kc) := by
  unfold zx_xas1 at hz
  split at hz
  · cases hz
  · rename_i t ht
    obtain ⟨q1, q2⟩ := zx_rng_ok hG ht he
    split at hz
    · rename_i hc
      obtain ⟨c1, c2, c3⟩ := hc
      refine ⟨vp_in_iff.mpr ⟨by omega, by omega⟩, fun H1 locs1 P1 D1 S1 => ?_⟩
      have h3 : w.toNatClampNeg = t.1.toNat := zx_cl (by omega)
      rw [h3] at hq
      exact zx_K1 K (zx_one hz) (zx_J_same hG (zx_B_set B hw hq P1 D1 S1))
    · cases hz
theorem zx_xas_ok {by_ : Bool} (hG : zx_ok ρ G) (B : zx_B D cl A b ex ad0 nL s ρ h lv sk H locs ls kc tys ws lc) (hz : zx_xas pc G h lv k sk by_ = some z) (K : zx_KK p l e R s m args below meth c Q D cl A b ex ad0 nL ρ z) : ∃ (v w : Int32) (a : Nat) (kr : List Value) (i0 t0 : Nat) (cA : ClassId) (tg n : Nat) (f : Nat → Int32), kc = .int v :: .int w :: .ref a :: kr ∧ (if by_ = true then (tg = 1 ∧ vp_nar .byte v = v) ∨ (tg = 2 ∧ vp_nar .boolean v = v) else tg = 0) ∧ tys[t0]? = some (cA, zx_ty cl tg) ∧ vp_in w n ∧ ws[i0]? = some (a, .inl (cA, n, .inl f)) ∧
    ∀ (H1 : Heap) (locs1 : List Loc), va_P D cl (ws.set i0 (a, .inl (cA, n, .inl (upd f w.toNatClampNeg v)))) H1 → va_D A (ws.set i0 (a, .inl (cA, n, .inl (upd f w.toNatClampNeg v)))) → va_S A s.heap H1 locs1 → W p l e R s m args below meth c H1 locs1 k.1 k.2 Q (F0 m (pc + 1) ls kr) := by
  unfold zx_xas at hz
  split at hz
  · rename_i v1 e1 id r
    obtain ⟨v, kr1, rfl, hv, B1⟩ := zx_topi B
    obtain ⟨w, kr2, rfl, he, B2⟩ := zx_topi B1
    obtain ⟨x3, kr, rfl, hv3, B3⟩ := zx_top1 B2
    split at hz
    · cases hz
    · rename_i hi
      rcases hv3 with ⟨h4, -⟩ | ⟨i0, a, h4, h5, rfl⟩
      · cases h4
      · have hid : i0 = id := List.mem_singleton.mp h4
        subst hid
        split at hz
        · rename_i ar tv te har htv hte
          obtain ⟨v2, v3⟩ := zx_rng_ok hG htv hv
          obtain ⟨w2, w3⟩ := zx_rng_ok hG hte he
          split at hz
          · rename_i htg
            obtain ⟨en, g1, cA, t0, g2, g3⟩ := zx_cell B3 hi h5 har
            have htg2 : if by_ = true then (ar.1 = 1 ∧ vp_nar .byte v = v) ∨ (ar.1 = 2 ∧ vp_nar .boolean v = v) else ar.1 = 0 := by
              cases by_ with
              | true =>
                rw [if_pos rfl]
                simp only [zx_bok, Bool.or_eq_true, Bool.and_eq_true, beq_iff_eq] at htg
                rcases htg with ⟨q1, q2⟩ | ⟨q1, q2⟩
                · obtain ⟨q3, q4⟩ := zx_in_iff.mp q2
                  exact Or.inl ⟨q1, zx_nar8 (by omega) (by omega)⟩
                · obtain ⟨q3, q4⟩ := zx_in_iff.mp q2
                  exact Or.inr ⟨q1, zx_nar01 (by omega) (by omega)⟩
              | false =>
                simp only [zx_bok, beq_iff_eq] at htg
                rw [if_neg (by decide)]; exact htg
            have hlt : ar.1 < 3 := by
              cases by_ with
              | true =>
                rw [if_pos rfl] at htg2
                rcases htg2 with q | q
                · rw [q.1]; decide
                · rw [q.1]; decide
              | false => rw [if_neg (by decide)] at htg2; rw [htg2]; decide
            rcases g3 with ⟨g3, f, rfl, g4⟩ | ⟨g3, f, rfl, g4⟩
            · have upe : ∀ (j : Nat), (fun j => Value.int (upd f w.toNatClampNeg v j)) j = if j = w.toNatClampNeg then .int v else .int (f j) := by
                intro j
                by_cases hj : j = w.toNatClampNeg
                · rw [if_pos hj]; simp [upd, hj]
                · rw [if_neg hj]; simp [upd, hj]
              split at hz
              · rename_i hs
                rw [hs] at g4
                split at hz
                · rename_i t hl
                  split at hz
                  · rename_i hc
                    obtain ⟨c1, c2, c3⟩ := hc
                    obtain ⟨c4, c5⟩ := zx_in_iff.mp c3
                    refine ⟨v, w, a, kr, i0 - 64, t0, cA, ar.1, ar.2.1, f, rfl, htg2, g2, vp_in_iff.mpr ⟨by omega, by omega⟩, g1, fun H1 locs1 P1 D1 S1 => ?_⟩
                    have B4 := zx_B_set B3 g1 (q := .inr (.inl ar)) (en := .inl (cA, ar.2.1, .inl (upd f w.toNatClampNeg v))) ?_ P1 D1 S1
                    · rw [zx_set_same har] at B4
                      exact zx_K1 K (zx_one hz) (zx_J_same hG B4)
                    · refine ⟨cA, t0, g2, Or.inl ⟨g3, _, rfl, ?_⟩⟩
                      rw [hs]
                      obtain ⟨sl, k1, k2⟩ := g4
                      rw [hl] at k1
                      have k1 : (.inr t : zx_S) = sl := by cases k1; rfl
                      subst k1
                      refine ⟨.inr t, hl, fun j hj => ?_⟩
                      rw [upe j]
                      split
                      · exact ⟨v, rfl, by omega, by omega⟩
                      · exact k2 j hj
                  · cases hz
                · cases hz
              · rename_i hs
                have hs : ar.2.2.1 = false := by simpa using hs
                rw [hs] at g4
                split at hz
                · rename_i gs hgs
                  obtain ⟨G', k1, k2⟩ := zx_split_ok hG he hgs
                  obtain ⟨y2, k3, k4⟩ := zx_all_ok hz k1
                  have hq : zx_RC cl b ex ρ (zx_as ws) tys (.inr (.inl (ar.1, ar.2.1, false, ar.2.2.2.set w.toNatClampNeg (.inl (.inl v1))))) (.inl (cA, ar.2.1, .inl (upd f w.toNatClampNeg v))) :=
                    ⟨cA, t0, g2, Or.inl ⟨g3, _, rfl, zx_RA_eq (zx_RA_put (j := w.toNatClampNeg) (v := .inl v1) (x := .int v) g4 ⟨v, rfl, hv⟩) (fun j => (upe j).symm)⟩⟩
                  obtain ⟨r1, r2⟩ := zx_xas1_W k2 B3 he k3 (fun q hq => K q (k4 q hq)) g1 hq
                  exact ⟨v, w, a, kr, i0 - 64, t0, cA, ar.1, ar.2.1, f, rfl, htg2, g2, r1, g1, r2⟩
                · cases hz
            · omega
          · cases hz
        · cases hz
  · cases hz
theorem zx_xqs_ok (F : zx_FX p s m args meth c R cc own Ts nw cl A ex nL sts Y aos dt M) (hd : decode cc pc = .ok (.aastore, 1)) (hG : zx_ok ρ G) (B : zx_B D cl A b ex ad0 nL s ρ h lv sk H locs ls kc tys ws lc) (hz : zx_xqs pc G h lv k sk = some z) (K : zx_KK p l e R s m args below meth c Q D cl A b ex ad0 nL ρ z) : W p l e R s m args below meth c H locs k.1 k.2 Q (F0 m pc ls kc) := by
  obtain ⟨hx, hb, hown, hts, hnw, hA, hR, hin, hnL, hCX, hao, hCK, hMK⟩ := F
  unfold zx_xqs at hz
  split at hz
  · rename_i iv e1 id r
    obtain ⟨x1, kr1, rfl, hv, B1⟩ := zx_top1 B
    obtain ⟨w, kr2, rfl, he, B2⟩ := zx_topi B1
    obtain ⟨x3, kr, rfl, hv3, B3⟩ := zx_top1 B2
    split at hz
    · cases hz
    · rename_i hi
      have hi1 : ¬ id < 64 := fun q => hi (Or.inl q)
      have hi2 : ¬ iv < 64 := fun q => hi (Or.inr q)
      rcases hv3 with ⟨h4, -⟩ | ⟨i0, a, h4, h5, rfl⟩
      · cases h4
      · have hid : i0 = id := List.mem_singleton.mp h4
        subst hid
        rcases id hv with ⟨h6, -⟩ | ⟨i1, av, h6, h7, rfl⟩
        · cases h6
        · have hid : i1 = iv := List.mem_singleton.mp h6
          subst hid
          split at hz
          · rename_i ar o har ho
            split at hz
            · rename_i hc
              obtain ⟨c1, hs⟩ := hc
              obtain ⟨en, g1, cA, t0, g2, g3⟩ := zx_cell B3 hi1 h5 har
              obtain ⟨en2, f1, fs, rfl, f2⟩ := zx_cell B3 hi2 h7 ho
              obtain ⟨rr, hc1, -⟩ := B3.2.1 _ _ f1
              have hty : zx_ty cl ar.1 = .object rr.1 := by
                rw [c1, Nat.add_comm 3 o.1]
                show FieldType.object ((cl[o.1]?.map (fun q => q.1)).getD "") = _
                rw [hc1]; rfl
              rcases g3 with ⟨g3, -⟩ | ⟨g3, f, rfl, g4⟩
              · omega
              · split at hz
                · rename_i gs hgs
                  obtain ⟨G', k1, k2⟩ := zx_split_ok hG he hgs
                  obtain ⟨y2, k3, k4⟩ := zx_all_ok hz k1
                  rw [hs] at g4
                  have upe : ∀ (j : Nat), (fun j => va_rf (va_up f w.toNatClampNeg (some av) j)) j = if j = w.toNatClampNeg then .ref av else va_rf (f j) := by
                    intro j
                    by_cases hj : j = w.toNatClampNeg
                    · rw [if_pos hj]; simp [va_up, hj, va_rf]
                    · rw [if_neg hj]; simp [va_up, hj]
                  have hq : zx_RC cl b ex ρ (zx_as ws) tys (.inr (.inl (ar.1, ar.2.1, false, ar.2.2.2.set w.toNatClampNeg (.inl (.inr (.inl ([i1], false))))))) (.inl (cA, ar.2.1, .inr (.inr (.inr (.inr (va_up f w.toNatClampNeg (some av))))))) :=
                    ⟨cA, t0, g2, Or.inr ⟨g3, _, rfl, zx_RA_eq (zx_RA_put (j := w.toNatClampNeg) (v := .inr (.inl ([i1], false))) (x := .ref av) g4 hv) (fun j => (upe j).symm)⟩⟩
                  obtain ⟨r1, r2⟩ := zx_xas1_W k2 B3 he k3 (fun q hq => K q (k4 q hq)) g1 hq
                  exact va_astq hx hb B.1 B.2.1 B.2.2.1 B.2.2.2.1.1 (i0 - 64) t0 (i1 - 64) o.1 (r := rr) g1 (by rw [← hty]; exact g2) f1 hc1 r1 hd r2
                · cases hz
            · cases hz
          · cases hz
  · cases hz
theorem zx_xlen_ok (F : zx_FX p s m args meth c R cc own Ts nw cl A ex nL sts Y aos dt M) (hd : decode cc pc = .ok (.arraylength, 1)) (hG : zx_ok ρ G) (B : zx_B D cl A b ex ad0 nL s ρ h lv sk H locs ls kc tys ws lc) (hz : zx_xlen pc G h lv k sk = some z) (K : zx_KK p l e R s m args below meth c Q D cl A b ex ad0 nL ρ z) : W p l e R s m args below meth c H locs k.1 k.2 Q (F0 m pc ls kc) := by
  obtain ⟨hx, hb, hown, hts, hnw, hA, hR, hin, hnL, hCX, hao, hCK, hMK⟩ := F
  unfold zx_xlen at hz
  split at hz
  · rename_i ids r
    obtain ⟨x, kr, rfl, hv, B1⟩ := zx_top1 B
    rcases hv with ⟨h4, -⟩ | ⟨i0, a, h4, h5, rfl⟩
    · cases h4
    · obtain ⟨y, h6, h7⟩ := zx_all_ok hz h4
      have K' : zx_KK p l e R s m args below meth c Q D cl A b ex ad0 nL ρ y := fun q hq => K q (h7 q hq)
      unfold zx_xlen1 at h6
      split at h6
      · cases h6
      · rename_i hi
        split at h6
        · rename_i ar har
          split at h6
          · rename_i hn
            obtain ⟨en, g1, cA, t0, g2, g3⟩ := zx_cell B1 hi h5 har
            have hv : ∀ w : Int32, Int32.ofNat ar.2.1 = w → zx_R b ex ρ (zx_as ws) (.inl ([], (ar.2.1 : Int))) (.int w) := by
              intro w hw
              refine ⟨w, rfl, ?_⟩
              rw [← hw, Int32.toInt_ofNat_of_lt hn]
              exact zx_ev_iff.mpr ⟨0, rfl, by simp⟩
            rcases g3 with ⟨g3, f, rfl, g4⟩ | ⟨g3, f, rfl, g4⟩
            · exact va_alen hx hb B1.1 B1.2.1 (i0 - 64) t0 (x := (ar.2.1, .inl f)) g1 g2 rfl hd (zx_push_W hG B1 h6 (hv _ rfl) K')
            · exact va_alen hx hb B1.1 B1.2.1 (i0 - 64) t0 (x := (ar.2.1, .inr (.inr (.inr (.inr f))))) g1 g2 rfl hd (zx_push_W hG B1 h6 (hv _ rfl) K')
          · cases h6
        · cases h6
  · cases hz
/-- one cell more -/
theorem zx_J_new {q : zx_C} {a : Nat} {en : va_E} {ty : List (ClassId × FieldType)} {kr : List Value} {sr : List zx_V} {H1 : Heap} {locs1 : List Loc} (hG : zx_ok ρ G) (B : zx_B D cl A b ex ad0 nL s ρ h lv sr H locs ls kr tys ws lc) (K1 : va_K D cl (tys ++ ty) s) (P1 : va_P D cl (ws ++ [(a, en)]) H1) (D1 : va_D A (ws ++ [(a, en)])) (S1 : va_S A s.heap H1 locs1) (hq : zx_RC cl b ex ρ (zx_as ws) (tys ++ ty) q en) : zx_J D cl A b ex ad0 nL s (ρ ++ []) G (h ++ [q]) lv (.inr (.inl ([64 + h.length], false)) :: sr) H1 locs1 ls (.ref a :: kr) := by
  obtain ⟨h1, h2, h3, h4, h5, h6, h7, h8⟩ := B
  rw [List.append_nil]
  have has : zx_as (ws ++ [(a, en)]) = zx_as ws ++ [a] := by unfold zx_as; rw [List.map_append]; rfl
  have hup : ∀ (c : zx_C) (q : Nat × va_E), zx_RC cl b ex ρ (zx_as ws) tys c q.2 → zx_RC cl b ex ρ (zx_as ws ++ [a]) (tys ++ ty) c q.2 := by
    intro c q hc
    have := zx_RC_app (r := []) (q := [a]) (ty := ty) hc
    rwa [List.append_nil] at this
  have hupv : ∀ (v : zx_V) (x : Value), zx_R b ex ρ (zx_as ws) v x → zx_R b ex ρ (zx_as ws ++ [a]) v x := by
    intro v x hv
    have := zx_R_app (r := []) (q := [a]) hv
    rwa [List.append_nil] at this
  refine ⟨hG, tys ++ ty, ws ++ [(a, en)], lc, K1, P1, D1, ⟨S1, by obtain ⟨xt, hxt⟩ := h4.2; exact ⟨xt ++ [a], by rw [has, hxt, List.append_assoc]⟩⟩, ?_, ?_, h7, ?_⟩
  · rw [has]
    refine zx_F2_app (l' := [q]) (m' := [(a, en)]) ⟨?_, trivial⟩ (zx_F2_imp hup h5)
    have := zx_RC_app (r := []) (q := [a]) (ty := []) hq
    rwa [List.append_nil, List.append_nil] at this
  · rw [has]
    exact zx_F2_imp (fun _ _ q => ⟨q.1, hupv _ _ q.2⟩) h6
  · rw [has]
    refine ⟨Or.inr ⟨64 + h.length, a, List.mem_singleton.mpr rfl, ?_, rfl⟩, zx_F2_imp hupv h8⟩
    rw [zx_ad, if_neg (by omega), show 64 + h.length - 64 = (zx_as ws).length by rw [zx_F2_len h5]; unfold zx_as; rw [List.length_map]; omega]
    simp
theorem zx_dvs {ad : List Nat} : ∀ d : List Nat, zx_F2 (zx_RS b ex ρ ad) (d.map zx_dv) (d.map zx_dV)
  | [] => trivial
  | t :: r => ⟨zx_dv_ok t, zx_dvs r⟩
theorem zx_xnew_ok {ix : Nat} (F : zx_FX p s m args meth c R cc own Ts nw cl A ex nL sts Y aos dt M) (hd : decode cc pc = .ok (.new ix, 3)) (hG : zx_ok ρ G) (B : zx_B D cl A b ex ad0 nL s ρ h lv sk H locs ls kc tys ws lc) (hz : zx_xnew M pc G h lv k sk ix dt = some z) (K : zx_KK p l e R s m args below meth c Q D cl A b ex ad0 nL ρ z) : W p l e R s m args below meth c H locs k.1 k.2 Q (F0 m pc ls kc) := by
  obtain ⟨hx, hb, hown, hts, hnw, hA, hR, hin, hnL, hCX, hao, hCK, hMK⟩ := F
  unfold zx_xnew at hz
  split at hz
  · rename_i ci hci
    split at hz
    · rename_i d hdt
      split at hz
      · rename_i hc
        obtain ⟨hix, hc⟩ := hc
        obtain ⟨C, T, N, m1, m9, -⟩ := hMK.2.2.1 ix ci hci
        obtain ⟨m2, m3, m4⟩ := m9 hix
        obtain ⟨u1, ty0, u2, u3, u4⟩ := hCK _ _ _ _ m1
        obtain ⟨u5, u6⟩ := u4 d hdt
        rw [← hR.1, ← hR.2, u5] at hc
        refine va_new (C := C) (T := T) (N := N) (ci := ci) (fs := d.map zx_dV) hx hb hts u1 ty0 u2 hown (hts _ m2) (hts _ m3) (hts _ m4) B.1 B.2.1 B.2.2.1 B.2.2.2.1.1 hA m1 (fun j hj => ?_) hc.1 hc.2 hd (fun a H1 P1 D1 S1 => ?_)
        · obtain ⟨q1, q2⟩ := u6 j hj
          rw [zx_dV_ty q2, vp_V, List.getD_eq_getElem?_getD, List.getElem?_map, q1]
          rfl
        · have J := zx_J_new (q := .inl (ci, d.map zx_dv)) (ty := []) hG B (by rw [List.append_nil]; exact B.1) P1 D1 S1 ⟨d.map zx_dV, rfl, ?_⟩
          · have hz2 := zx_one hz
            rw [u5] at hz2
            exact zx_K1 K hz2 J
          · exact zx_dvs d
      · cases hz
    · cases hz
  · cases hz
theorem zx_cN {x : Int32} {n : Int} (h : x.toInt = n) (h0 : 0 ≤ n) : ¬ x < 0 ∧ x.toNatClampNeg = n.toNat := by
  refine ⟨fun q => ?_, zx_cl h⟩
  have := Int32.lt_iff_toInt_lt.mp q
  rw [h] at this
  have h9 : (0 : Int32).toInt = 0 := rfl
  omega
theorem zx_RA_rep {n : Nat} {ad : List Nat} {t : zx_S} {x : Value} (h : zx_RS b ex ρ ad t x) : zx_RA b ex ρ ad n false (List.replicate n t) (fun _ => x) := by
  refine ⟨List.length_replicate, fun j t' ht => ?_⟩
  have := List.mem_of_getElem? ht
  rw [(List.mem_replicate.mp this).2]; exact h
theorem zx_xna_ok {at_ : ArrayType} (F : zx_FX p s m args meth c R cc own Ts nw cl A ex nL sts Y aos dt M) (harr : ∀ ty : FieldType, newarray.typeOf at_ = ty → Jvm.Cond.arrayClass ty ∈ Ts) (hd : decode cc pc = .ok (.newarray at_, 2)) (hG : zx_ok ρ G) (B : zx_B D cl A b ex ad0 nL s ρ h lv sk H locs ls kc tys ws lc) (hz : zx_xna M pc G h lv k sk at_ = some z) (K : zx_KK p l e R s m args below meth c Q D cl A b ex ad0 nL ρ z) : W p l e R s m args below meth c H locs k.1 k.2 Q (F0 m pc ls kc) := by
  obtain ⟨hx, hb, hown, hts, hnw, hA, hR, hin, hnL, hCX, hao, hCK, hMK⟩ := F
  unfold zx_xna at hz
  split at hz
  · rename_i e1 r
    obtain ⟨w, kr, rfl, he, B1⟩ := zx_topi B
    split at hz
    · rename_i hc
      obtain ⟨c1, c2, c3, c4, c5⟩ := hc
      have hw := zx_isc_ev c1 he
      obtain ⟨n1, n2⟩ := zx_cN hw c2
      rw [← hR.1] at c4
      rw [← hR.2] at c5
      have hsz : ∀ q : Nat, q ≤ 8 → e1.2.toNat * q ≤ 536870912 := by
        intro q hq
        have h9 : e1.2.toNat ≤ 1000000 := by omega
        calc e1.2.toNat * q ≤ 1000000 * 8 := Nat.mul_le_mul h9 hq
          _ ≤ 536870912 := by decide
      split at hz
      · rename_i h3
        have hat : at_ = .long := by cases at_ <;> first | rfl | exact absurd h3 (by decide)
        subst hat
        refine va_newa (ty := .long) (a0 := (e1.2.toNat, .inr (.inl (fun _ => 0)))) hx hb (hts _ (harr _ rfl)) rfl B.1 B.2.1 B.2.2.1 B.2.2.2.1.1 hA (fun _ => rfl) n1 n2 (hsz 8 (by decide)) c4 c5 hd (fun a cA H1 K1 P1 D1 S1 => ?_)
        exact zx_K1 K (zx_one hz) (zx_J_new (q := .inr (.inr e1.2.toNat)) hG B1 K1 P1 D1 S1 ⟨cA, tys.length, fun _ => 0, by simp, rfl⟩)
      · split at hz
        · rename_i h4
          have hty : newarray.typeOf at_ = zx_ty cl (zx_at at_) ∧ (∀ cA : ClassId, vp_cell cA (e1.2.toNat, .inl (fun _ => 0)) = arrV cA e1.2.toNat (fun _ => defaultValue (zx_ty cl (zx_at at_)))) ∧ componentBytes (zx_ty cl (zx_at at_)) ≤ 8 := by
            cases at_ <;> first | exact ⟨rfl, fun _ => rfl, Nat.le_of_ble_eq_true rfl⟩ | exact absurd h4 (by decide)
          have go : ∀ (q : zx_C), (∀ (cA : ClassId) (t0 : Nat) (tyy : List (ClassId × FieldType)), tyy[t0]? = some (cA, zx_ty cl (zx_at at_)) → zx_RC cl b ex ρ (zx_as ws) tyy q (.inl (cA, e1.2.toNat, .inl (fun _ => 0)))) → some [(pc + 2, G, h ++ [q], lv, .inr (.inl ([64 + h.length], false)) :: r, (k.1 + 1, k.2 + e1.2.toNat))] = some z → W p l e R s m args below meth c H locs k.1 k.2 Q (F0 m pc ls (.int w :: kr)) := by
            intro q hq hz
            refine va_newa (ty := zx_ty cl (zx_at at_)) (a0 := (e1.2.toNat, .inl (fun _ => 0))) hx hb (hts _ (harr _ rfl)) hty.1 B.1 B.2.1 B.2.2.1 B.2.2.2.1.1 hA hty.2.1 n1 n2 (hsz _ hty.2.2) c4 c5 hd (fun a cA H1 K1 P1 D1 S1 => ?_)
            exact zx_K1 K (zx_one hz) (zx_J_new (q := q) hG B1 K1 P1 D1 S1 (hq cA tys.length _ (by simp)))
          split at hz
          · rename_i lo hi hn
            split at hz
            · rename_i hlh
              refine go (.inr (.inl (zx_at at_, e1.2.toNat, true, [.inr (lo, hi)]))) (fun cA t0 tyy ht => ⟨cA, t0, ht, Or.inl ⟨h4, _, rfl, ⟨.inr (lo, hi), rfl, fun j hj => ⟨0, rfl, hlh.1, hlh.2⟩⟩⟩⟩) hz
            · cases hz
          · exact go (.inr (.inl (zx_at at_, e1.2.toNat, false, List.replicate e1.2.toNat (.inl (.inl ([], 0)))))) (fun cA t0 tyy ht => ⟨cA, t0, ht, Or.inl ⟨h4, _, rfl, zx_RA_rep (t := .inl (.inl ([], 0))) (x := .int 0) ⟨0, rfl, rfl⟩⟩⟩) hz
          · cases hz
        · cases hz
    · cases hz
  · cases hz
theorem zx_xnq_ok {ix : Nat} (F : zx_FX p s m args meth c R cc own Ts nw cl A ex nL sts Y aos dt M) (hd : decode cc pc = .ok (.anewarray ix, 3)) (hG : zx_ok ρ G) (B : zx_B D cl A b ex ad0 nL s ρ h lv sk H locs ls kc tys ws lc) (hz : zx_xnq M pc G h lv k sk ix = some z) (K : zx_KK p l e R s m args below meth c Q D cl A b ex ad0 nL ρ z) : W p l e R s m args below meth c H locs k.1 k.2 Q (F0 m pc ls kc) := by
  obtain ⟨hx, hb, hown, hts, hnw, hA, hR, hin, hnL, hCX, hao, hCK, hMK⟩ := F
  unfold zx_xnq at hz
  split at hz
  · rename_i e1 r
    obtain ⟨w, kr, rfl, he, B1⟩ := zx_topi B
    split at hz
    · rename_i ci hci
      split at hz
      · rename_i hc
        obtain ⟨c0, c1, c2, c3, c4, c5⟩ := hc
        have hw := zx_isc_ev c1 he
        obtain ⟨n1, n2⟩ := zx_cN hw c2
        rw [← hR.1] at c4
        rw [← hR.2] at c5
        obtain ⟨C, T, N, m1, -, m9⟩ := hMK.2.2.1 (ix + 65536) ci hci
        obtain ⟨m2, m5⟩ := m9 (by omega)
        rw [Nat.add_sub_cancel] at m2
        refine va_newq (C := C) hx hb hown (hts _ m2) (hao _ m5) B.1 B.2.1 B.2.2.1 B.2.2.2.1.1 hA n1 n2 (by omega) c4 c5 hd (fun a cA H1 K1 P1 D1 S1 => ?_)
        refine zx_K1 K (zx_one hz) (zx_J_new (q := .inr (.inl (3 + ci, e1.2.toNat, false, List.replicate e1.2.toNat (.inl (.inr (.inl ([], true))))))) hG B1 K1 P1 D1 S1 ⟨cA, tys.length, ?_, Or.inr ⟨by show 3 ≤ 3 + ci; omega, fun _ => none, rfl, zx_RA_rep (t := .inl (.inr (.inl ([], true)))) (x := .null) (Or.inl ⟨rfl, rfl⟩)⟩⟩)
        rw [Nat.add_comm 3 ci]
        show (tys ++ [(cA, FieldType.object C)])[tys.length]? = some (cA, .object ((cl[ci]?.map (fun q => q.1)).getD ""))
        rw [m1]
        simp
      · cases hz
    · cases hz
  · cases hz
theorem zx_xgs_ok {ix : Nat} (F : zx_FX p s m args meth c R cc own Ts nw cl A ex nL sts Y aos dt M) (hd : decode cc pc = .ok (.getstatic ix, 3)) (hG : zx_ok ρ G) (B : zx_B D cl A b ex ad0 nL s ρ h lv sk H locs ls kc tys ws lc) (hz : zx_xgs M pc G h lv k sk ix = some z) (K : zx_KK p l e R s m args below meth c Q D cl A b ex ad0 nL ρ z) : W p l e R s m args below meth c H locs k.1 k.2 Q (F0 m pc ls kc) := by
  obtain ⟨hx, hb, hown, hts, hnw, hA, hR, hin, hnL, hCX, hao, hCK, hMK⟩ := F
  unfold zx_xgs at hz
  split at hz
  · rename_i id hid
    split at hz
    · rename_i hi
      obtain ⟨t, t1, t2, t3⟩ := hMK.2.1 ix id hid
      obtain ⟨a, a1, a2⟩ := hCX.1 t t1
      have hv : zx_R b ex ρ (zx_as ws) (.inr (.inl ([id], false))) (.ref a) := Or.inr ⟨id, a, List.mem_singleton.mpr rfl, by rw [zx_ad, if_pos hi, ← t2]; exact a1, rfl⟩
      rcases t3 with t3 | ⟨host, t3⟩
      · exact va_gets hx hb a2 B.2.2.2.1.1 hown (hts _ t3) (fun _ h9 => h9) hd (zx_push_W hG B hz hv K)
      · exact va_getsN hx hb a2 B.2.2.2.1.1 hown (va_Nw.use rfl (hnw _ t3)) (fun _ h9 => h9) hd (zx_push_W hG B hz hv K)
    · cases hz
  · cases hz
theorem zx_xyl_ok (F : zx_FX p s m args meth c R cc own Ts nw cl A ex nL sts Y aos dt M) (hd : decode cc pc = .ok (.iaload, 1)) (hG : zx_ok ρ G) (B : zx_B D cl A b ex ad0 nL s ρ h lv sk H locs ls kc tys ws lc) (hz : zx_xyl Y pc G h lv k sk = some z) (K : zx_KK p l e R s m args below meth c Q D cl A b ex ad0 nL ρ z) : W p l e R s m args below meth c H locs k.1 k.2 Q (F0 m pc ls kc) := by
  obtain ⟨hx, hb, hown, hts, hnw, hA, hR, hin, hnL, hCX, hao, hCK, hMK⟩ := F
  unfold zx_xyl at hz
  split at hz
  · rename_i e1 id r
    obtain ⟨w, kr0, rfl, he, B0⟩ := zx_topi B
    obtain ⟨x2, kr, rfl, hv2, B1⟩ := zx_top1 B0
    split at hz
    · rename_i row hrow
      split at hz
      · rename_i gs hgs
        obtain ⟨G', k1, k2⟩ := zx_split_ok hG he hgs
        obtain ⟨y2, k3, k4⟩ := zx_all_ok hz k1
        obtain ⟨a, a0, a1, a2, a3⟩ := hCX.2 _ (zx_fd_mem hrow)
        rcases hv2 with ⟨h4, -⟩ | ⟨i0, a', h4, h5, rfl⟩
        · cases h4
        · have hid : i0 = id := List.mem_singleton.mp h4
          subst hid
          rw [zx_ad, if_pos a0, a1] at h5
          have h5 : a = a' := Option.some.inj h5
          subst h5
          unfold zx_xyl1 at k3
          split at k3
          · cases k3
          · rename_i t ht
            obtain ⟨q1, q2⟩ := zx_rng_ok k2 ht he
            split at k3
            · rename_i hc
              obtain ⟨c1, c2, c3⟩ := hc
              have hw : w.toNatClampNeg = t.1.toNat := zx_cl (by omega)
              refine va_ti hx hb a3 B.2.2.2.1.1 (vp_in_iff.mpr ⟨by omega, by show w.toInt < (row.length : Int); omega⟩) rfl hd ?_
              refine zx_push_W k2 B1 k3 ⟨_, rfl, ?_⟩ (fun q hq => K q (k4 q hq))
              rw [hw]
              have hl : t.1.toNat < row.length := by omega
              have hmem : row.getD t.1.toNat 0 ∈ row := by
                rw [List.getD_eq_getElem?_getD, List.getElem?_eq_getElem hl]
                exact List.getElem_mem hl
              rw [zx_ofI (a2 _ hmem).1 (a2 _ hmem).2]
              exact zx_ev_iff.mpr ⟨0, rfl, by simp⟩
            · cases k3
      · cases hz
    · cases hz
  · cases hz
theorem zx_xyn_ok (F : zx_FX p s m args meth c R cc own Ts nw cl A ex nL sts Y aos dt M) (hd : decode cc pc = .ok (.arraylength, 1)) (hG : zx_ok ρ G) (B : zx_B D cl A b ex ad0 nL s ρ h lv sk H locs ls kc tys ws lc) (hz : zx_xyn Y pc G h lv k sk = some z) (K : zx_KK p l e R s m args below meth c Q D cl A b ex ad0 nL ρ z) : W p l e R s m args below meth c H locs k.1 k.2 Q (F0 m pc ls kc) := by
  obtain ⟨hx, hb, hown, hts, hnw, hA, hR, hin, hnL, hCX, hao, hCK, hMK⟩ := F
  unfold zx_xyn at hz
  split at hz
  · rename_i id r
    obtain ⟨x2, kr, rfl, hv2, B1⟩ := zx_top1 B
    split at hz
    · rename_i row hrow
      split at hz
      · rename_i hn
        obtain ⟨a, a0, a1, a2, a3⟩ := hCX.2 _ (zx_fd_mem hrow)
        rcases hv2 with ⟨h4, -⟩ | ⟨i0, a', h4, h5, rfl⟩
        · cases h4
        · have hid : i0 = id := List.mem_singleton.mp h4
          subst hid
          rw [zx_ad, if_pos a0, a1] at h5
          have h5 : a = a' := Option.some.inj h5
          subst h5
          refine va_tlen hx hb a3 B.2.2.2.1.1 rfl hd (zx_push_W hG B1 hz ⟨_, rfl, ?_⟩ K)
          show zx_ev ρ ([], (row.length : Int)) = some (Int32.ofNat row.length).toInt
          rw [Int32.toInt_ofNat_of_lt hn]
          exact zx_ev_iff.mpr ⟨0, rfl, by simp⟩
      · cases hz
    · cases hz
  · cases hz
theorem zx_xsl_ok (F : zx_FX p s m args meth c R cc own Ts nw cl A ex nL sts Y aos dt M) (hS : zx_SX b xs A s M ρ) (hd : decode cc pc = .ok (.iaload, 1)) (hG : zx_ok ρ G) (B : zx_B D cl A b ex ad0 nL s ρ h lv sk H locs ls kc tys ws lc) (hz : zx_xsl M pc G h lv k sk = some z) (K : zx_KK p l e R s m args below meth c Q D cl A b ex ad0 nL ρ z) : W p l e R s m args below meth c H locs k.1 k.2 Q (F0 m pc ls kc) := by
  obtain ⟨hx, hb, hown, hts, hnw, hA, hR, hin, hnL, hCX, hao, hCK, hMK⟩ := F
  unfold zx_xsl at hz
  split at hz
  · rename_i e1 r
    obtain ⟨w, kr0, rfl, he, B0⟩ := zx_topi B
    obtain ⟨x2, kr, rfl, hv2, B1⟩ := zx_top1 B0
    have hv2 : x2 = .ref b := hv2
    subst hv2
    split at hz
    · rename_i t b0 ht hb0
      obtain ⟨q1, q2⟩ := zx_rng_ok hG ht he
      split at hz
      · rename_i hc
        obtain ⟨c1, c2, c3, c4, c5⟩ := hc
        obtain ⟨L, s1, s2, s3, s4, s5, s6⟩ := hS c5
        obtain ⟨g1, g2⟩ := hG.2 _ _ _ s5 hb0
        have hw : w.toNatClampNeg = t.1.toNat := zx_cl (by omega)
        refine va_sld hx hb s1 s2 s3 B.2.2.2.1.1 (vp_in_iff.mpr ⟨by omega, by omega⟩) hd ?_
        refine zx_push_W hG B1 hz ⟨_, rfl, ?_⟩ K
        rw [hw]
        refine zx_ev_iff.mpr ⟨(xs t.1.toNat).toInt, zx_evl_cons.mpr ⟨(xs t.1.toNat).toInt, 0, s6 _ (by omega), rfl, by simp⟩, by simp⟩
      · cases hz
    · cases hz
  · cases hz
theorem zx_xsn_ok (F : zx_FX p s m args meth c R cc own Ts nw cl A ex nL sts Y aos dt M) (hS : zx_SX b xs A s M ρ) (hd : decode cc pc = .ok (.arraylength, 1)) (hG : zx_ok ρ G) (B : zx_B D cl A b ex ad0 nL s ρ h lv sk H locs ls kc tys ws lc) (hz : zx_xsn M pc G h lv k sk = some z) (K : zx_KK p l e R s m args below meth c Q D cl A b ex ad0 nL ρ z) : W p l e R s m args below meth c H locs k.1 k.2 Q (F0 m pc ls kc) := by
  obtain ⟨hx, hb, hown, hts, hnw, hA, hR, hin, hnL, hCX, hao, hCK, hMK⟩ := F
  unfold zx_xsn at hz
  split at hz
  · rename_i r
    obtain ⟨x2, kr, rfl, hv2, B1⟩ := zx_top1 B
    have hv2 : x2 = .ref b := hv2
    subst hv2
    split at hz
    · rename_i hc
      obtain ⟨L, s1, s2, s3, s4, s5, s6⟩ := hS hc
      refine va_slen hx hb s1 s2 s3 B.2.2.2.1.1 hd (zx_push_W hG B1 hz ⟨_, rfl, ?_⟩ K)
      rw [Int32.toInt_ofNat_of_lt s4]
      exact zx_ev_iff.mpr ⟨(L : Int), zx_evl_cons.mpr ⟨(L : Int), 0, s5, rfl, by simp⟩, by simp⟩
    · cases hz
  · cases hz
end ZXI
end
section
/-! zx: all instructions but calls and returns -/
def zx_len (i : Instr) : Nat := match i with
  | .bipush _ => 2
  | .sipush _ => 3
  | .ldc _ => 2
  | .ldc_w _ => 3
  | .ldc2_w _ => 3
  | .iload _ => 2
  | .lload _ => 2
  | .aload _ => 2
  | .istore _ => 2
  | .lstore _ => 2
  | .astore _ => 2
  | .iinc _ _ => 3
  | .goto _ => 3
  | .ifCond _ _ => 3
  | .if_icmp _ _ => 3
  | .getfield _ => 3
  | .putfield _ => 3
  | .getstatic _ => 3
  | .new _ => 3
  | .newarray _ => 2
  | .anewarray _ => 3
  | .invokevirtual _ => 3
  | .invokespecial _ => 3
  | .invokestatic _ => 3
  | _ => 1
def zx_istab (i : Instr) : Bool := match i with
  | .tableswitch _ _ _ _ => true
  | _ => false
section ZXD
variable (M : zx_M) (Y : zx_Y) (dt : List (List Nat)) (pc : Nat) (i : Instr) (G : zx_G) (h : List zx_C) (lv : List (Nat × zx_V)) (k : Nat × Nat) (sk : List zx_V)
def zx_xiald : zx_O := match sk with
  | _ :: .inr (.inr false) :: _ => zx_xsl M pc G h lv k sk
  | _ :: .inr (.inl (id :: _, _)) :: _ => if id < 64 then zx_xyl Y pc G h lv k sk else zx_xal pc G h lv k sk (fun t => t == 0)
  | _ => none
def zx_xalen : zx_O := match sk with
  | .inr (.inr false) :: _ => zx_xsn M pc G h lv k sk
  | .inr (.inl (id :: _, _)) :: _ => if id < 64 then zx_xyn Y pc G h lv k sk else zx_xlen pc G h lv k sk
  | _ => none
def zx_xldc2 (ix : Nat) : zx_O := if zx_mL M ix = true then some [(pc + 3, G, h, lv, zx_lg :: sk, k)] else none
def zx_xlc : zx_O := some [(pc + 1, G, h, lv, zx_lg :: sk, k)]
def zx_step : zx_O := match i with
  | .iconst n => zx_xk pc G h lv k sk n (-128) 127 1
  | .bipush n => zx_xk pc G h lv k sk n (-128) 127 2
  | .sipush n => zx_xk pc G h lv k sk n (-32768) 32767 3
  | .ldc ix => zx_xint pc G h lv k sk (zx_mI M ix) 2
  | .ldc_w ix => zx_xint pc G h lv k sk (zx_mI M ix) 3
  | .ldc2_w ix => zx_xldc2 M pc G h lv k sk ix
  | .lconst _ => zx_xlc pc G h lv k sk
  | .iload n => zx_xld pc G h lv k sk n 2
  | .iload_n n => zx_xld pc G h lv k sk n 1
  | .lload n => zx_xlld pc G h lv k sk n 2
  | .lload_n n => zx_xlld pc G h lv k sk n 1
  | .aload n => zx_xald pc G h lv k sk n 2
  | .aload_n n => zx_xald pc G h lv k sk n 1
  | .istore n => zx_xst M pc G h lv k sk n 2
  | .istore_n n => zx_xst M pc G h lv k sk n 1
  | .lstore n => zx_xlst M pc G h lv k sk n 2
  | .lstore_n n => zx_xlst M pc G h lv k sk n 1
  | .astore n => zx_xast M pc G h lv k sk n 2
  | .astore_n n => zx_xast M pc G h lv k sk n 1
  | .iinc n c => zx_xinc M pc G h lv k sk n c
  | .iadd => zx_xbin pc h lv k sk (fun x y => zx_val G (zx_add x y))
  | .isub => zx_xbin pc h lv k sk (fun x y => zx_val G (zx_sub x y))
  | .imul => zx_xbin pc h lv k sk (fun x y => zx_mul G x y)
  | .idiv => zx_xbin pc h lv k sk (fun x y => zx_div G x y)
  | .irem => zx_xbin pc h lv k sk (fun x y => zx_rem G x y)
  | .iand => zx_xbin pc h lv k sk (fun x y => zx_and G x y)
  | .ior => zx_xbin pc h lv k sk (fun _ _ => some (zx_full G))
  | .ixor => zx_xbin pc h lv k sk (fun _ _ => some (zx_full G))
  | .ishl => zx_xbin pc h lv k sk (fun _ _ => some (zx_full G))
  | .ishr => zx_xbin pc h lv k sk (fun _ _ => some (zx_full G))
  | .i2b => zx_xi2b pc G h lv k sk
  | .i2l => zx_xi2l pc G h lv k sk
  | .l2i => zx_xl2i pc G h lv k sk
  | .land => zx_xlbin pc G h lv k sk
  | .lor => zx_xlbin pc G h lv k sk
  | .lxor => zx_xlbin pc G h lv k sk
  | .lshl => zx_xlsh pc G h lv k sk
  | .lshr => zx_xlsh pc G h lv k sk
  | .lcmp => zx_xlcmp pc G h lv k sk
  | .dup => zx_xdup pc G h lv k sk
  | .pop => zx_xpop pc G h lv k sk
  | .dup2 => zx_xdup2 pc G h lv k sk
  | .goto off => zx_xgoto pc G h lv k sk off
  | .ifCond c off => zx_xif pc G h lv k sk c off
  | .if_icmp c off => zx_xicmp pc G h lv k sk c off
  | .tableswitch d lo hi offs => zx_xtab pc G h lv k sk d lo hi offs
  | .getfield ix => zx_xget M pc G h lv k sk ix
  | .putfield ix => zx_xput M pc G h lv k sk ix
  | .getstatic ix => zx_xgs M pc G h lv k sk ix
  | .iaload => zx_xiald M Y pc G h lv k sk
  | .baload => zx_xal pc G h lv k sk (fun t => t == 1 || t == 2)
  | .aaload => zx_xal pc G h lv k sk (fun t => Nat.ble 3 t)
  | .iastore => zx_xas pc G h lv k sk false
  | .bastore => zx_xas pc G h lv k sk true
  | .aastore => zx_xqs pc G h lv k sk
  | .arraylength => zx_xalen M Y pc G h lv k sk
  | .new ix => zx_xnew M pc G h lv k sk ix dt
  | .newarray a => zx_xna M pc G h lv k sk a
  | .anewarray ix => zx_xnq M pc G h lv k sk ix
  | _ => none
end ZXD
theorem zx_b8 {n : Int} (h1 : -128 ≤ n) (h2 : n ≤ 127) : (Int8.ofInt n).toInt32.toInt = n := by
  rw [Int8.toInt_toInt32]
  exact Int8.toInt_ofInt_of_le (by omega) (by omega)
theorem zx_b16 {n : Int} (h1 : -32768 ≤ n) (h2 : n ≤ 32767) : (Int16.ofInt n).toInt32.toInt = n := by
  rw [Int16.toInt_toInt32]
  exact Int16.toInt_ofInt_of_le (by omega) (by omega)
section ZXE
variable {p : Program} {l : Launch} {e : Env} {R : Room} {s : State} {m : MethodId} {args : Array Value} {below : List Frame} {meth : Method} {c : Code} {Q : State → Prop}
variable {D : va_G} {cl : List vw_C} {A : Nat → Prop} {b : Nat} {ex ad0 : List Nat} {nL : Nat} {ρ : List Int} {G : zx_G} {h : List zx_C} {lv : List (Nat × zx_V)} {k : Nat × Nat} {sk : List zx_V} {H : Heap} {locs : List Loc} {ls : Array Slot} {kc : List Value} {tys : List (ClassId × FieldType)} {ws : va_W} {lc : List (Nat × Value)}
variable {cc : ByteArray} {pc : Nat} {M : zx_M} {z : List (Nat × zx_T)} {own : String} {Ts nw : List Jvm.Cond} {sts : List (String × String × String × Nat)} {Y : zx_Y} {aos : List String} {dt : List (List Nat)} {xs : Nat → Int32}
theorem zx_xint_ok {n : Option Int} {d : Nat} (hG : zx_ok ρ G) (B : zx_B D cl A b ex ad0 nL s ρ h lv sk H locs ls kc tys ws lc) (hz : zx_xint pc G h lv k sk n d = some z) (K : zx_KK p l e R s m args below meth c Q D cl A b ex ad0 nL ρ z) : ∃ v, n = some v ∧ ∀ w : Int32, w.toInt = v → W p l e R s m args below meth c H locs k.1 k.2 Q (F0 m (pc + d) ls (.int w :: kc)) := by
  unfold zx_xint at hz
  split at hz
  · rename_i v
    exact ⟨v, rfl, fun w hw => zx_push_W hG B hz ⟨w, rfl, by rw [hw]; exact zx_ev_iff.mpr ⟨0, rfl, by simp⟩⟩ K⟩
  · cases hz
theorem zx_dec_lt {x : Int32} : x < 0 ↔ x.toInt < 0 := Int32.lt_iff_toInt_lt
theorem zx_dec_eq {x y : Int32} : x = y ↔ x.toInt - y.toInt = 0 := by
  rw [← Int32.toInt_inj]; omega
theorem zx_dec_lt2 {x y : Int32} : x < y ↔ x.toInt - y.toInt < 0 := by
  rw [Int32.lt_iff_toInt_lt]; omega
theorem zx_dec_le2 {x y : Int32} : x ≤ y ↔ x.toInt - y.toInt ≤ 0 := by
  rw [Int32.le_iff_toInt_le]; omega
end ZXE
end
section
/-! zx: an instruction does on the machine what zx_step says -/
section ZXS
variable {p : Program} {l : Launch} {e : Env} {R : Room} {s : State} {m : MethodId} {args : Array Value} {below : List Frame} {meth : Method} {c : Code} {Q : State → Prop}
variable {D : va_G} {cl : List vw_C} {A : Nat → Prop} {b : Nat} {ex ad0 : List Nat} {nL : Nat} {ρ : List Int} {G : zx_G} {h : List zx_C} {lv : List (Nat × zx_V)} {k : Nat × Nat} {sk : List zx_V} {H : Heap} {locs : List Loc} {ls : Array Slot} {kc : List Value} {tys : List (ClassId × FieldType)} {ws : va_W} {lc : List (Nat × Value)}
variable {cc : ByteArray} {pc : Nat} {M : zx_M} {z : List (Nat × zx_T)} {own : String} {Ts nw : List Jvm.Cond} {sts : List (String × String × String × Nat)} {Y : zx_Y} {aos : List String} {dt : List (List Nat)} {xs : Nat → Int32}
theorem zx_iald_ok (F : zx_FX p s m args meth c R cc own Ts nw cl A ex nL sts Y aos dt M) (hS : zx_SX b xs A s M ρ) (hd : decode cc pc = .ok (.iaload, 1)) (hG : zx_ok ρ G) (B : zx_B D cl A b ex ad0 nL s ρ h lv sk H locs ls kc tys ws lc) (hz : zx_xiald M Y pc G h lv k sk = some z) (K : zx_KK p l e R s m args below meth c Q D cl A b ex ad0 nL ρ z) : W p l e R s m args below meth c H locs k.1 k.2 Q (F0 m pc ls kc) := by
  unfold zx_xiald at hz
  split at hz
  · exact zx_xsl_ok F hS hd hG B hz K
  · split at hz
    · exact zx_xyl_ok F hd hG B hz K
    · obtain ⟨w, a, kr, i0, t0, cA, tg, n, h1, h2, h3, h4, h5⟩ := zx_xal_ok hG B hz K
      subst h1
      have h2 : tg = 0 := by simpa using h2
      subst h2
      rcases h5 with ⟨-, f, h6, h7⟩ | ⟨h5, -⟩
      · exact va_iald F.1 F.2.1 B.1 B.2.1 i0 t0 h6 h3 h4 hd h7
      · omega
  · cases hz
theorem zx_bald_ok (F : zx_FX p s m args meth c R cc own Ts nw cl A ex nL sts Y aos dt M) (hd : decode cc pc = .ok (.baload, 1)) (hG : zx_ok ρ G) (B : zx_B D cl A b ex ad0 nL s ρ h lv sk H locs ls kc tys ws lc) (hz : zx_xal pc G h lv k sk (fun t => t == 1 || t == 2) = some z) (K : zx_KK p l e R s m args below meth c Q D cl A b ex ad0 nL ρ z) : W p l e R s m args below meth c H locs k.1 k.2 Q (F0 m pc ls kc) := by
  obtain ⟨w, a, kr, i0, t0, cA, tg, n, h1, h2, h3, h4, h5⟩ := zx_xal_ok hG B hz K
  subst h1
  simp only [Bool.or_eq_true, beq_iff_eq] at h2
  rcases h5 with ⟨-, f, h6, h7⟩ | ⟨h5, -⟩
  · rcases h2 with h2 | h2
    · subst h2
      exact va_bald F.1 F.2.1 B.1 B.2.1 i0 t0 h6 h3 h4 hd h7
    · subst h2
      exact va_zald F.1 F.2.1 B.1 B.2.1 i0 t0 h6 h3 h4 hd h7
  · omega
theorem zx_aald_ok (F : zx_FX p s m args meth c R cc own Ts nw cl A ex nL sts Y aos dt M) (hd : decode cc pc = .ok (.aaload, 1)) (hG : zx_ok ρ G) (B : zx_B D cl A b ex ad0 nL s ρ h lv sk H locs ls kc tys ws lc) (hz : zx_xal pc G h lv k sk (fun t => Nat.ble 3 t) = some z) (K : zx_KK p l e R s m args below meth c Q D cl A b ex ad0 nL ρ z) : W p l e R s m args below meth c H locs k.1 k.2 Q (F0 m pc ls kc) := by
  obtain ⟨w, a, kr, i0, t0, cA, tg, n, h1, h2, h3, h4, h5⟩ := zx_xal_ok hG B hz K
  subst h1
  have h2 : 3 ≤ tg := Nat.le_of_ble_eq_true h2
  rcases h5 with ⟨h5, -⟩ | ⟨-, f, h6, h7⟩
  · omega
  · obtain ⟨j, rfl⟩ : ∃ j, tg = j + 3 := ⟨tg - 3, by omega⟩
    exact va_aldq F.1 F.2.1 B.1 B.2.1 i0 t0 h6 h3 h4 hd h7
theorem zx_iast_ok (F : zx_FX p s m args meth c R cc own Ts nw cl A ex nL sts Y aos dt M) (hd : decode cc pc = .ok (.iastore, 1)) (hG : zx_ok ρ G) (B : zx_B D cl A b ex ad0 nL s ρ h lv sk H locs ls kc tys ws lc) (hz : zx_xas pc G h lv k sk false = some z) (K : zx_KK p l e R s m args below meth c Q D cl A b ex ad0 nL ρ z) : W p l e R s m args below meth c H locs k.1 k.2 Q (F0 m pc ls kc) := by
  obtain ⟨v, w, a, kr, i0, t0, cA, tg, n, f, h1, h2, h3, h4, h5, h6⟩ := zx_xas_ok hG B hz K
  subst h1
  rw [if_neg (by decide)] at h2
  subst h2
  exact va_iast F.1 F.2.1 B.1 B.2.1 B.2.2.1 B.2.2.2.1.1 i0 t0 h5 h3 h4 hd h6
theorem zx_bast_ok (F : zx_FX p s m args meth c R cc own Ts nw cl A ex nL sts Y aos dt M) (hd : decode cc pc = .ok (.bastore, 1)) (hG : zx_ok ρ G) (B : zx_B D cl A b ex ad0 nL s ρ h lv sk H locs ls kc tys ws lc) (hz : zx_xas pc G h lv k sk true = some z) (K : zx_KK p l e R s m args below meth c Q D cl A b ex ad0 nL ρ z) : W p l e R s m args below meth c H locs k.1 k.2 Q (F0 m pc ls kc) := by
  obtain ⟨v, w, a, kr, i0, t0, cA, tg, n, f, h1, h2, h3, h4, h5, h6⟩ := zx_xas_ok hG B hz K
  subst h1
  rw [if_pos rfl] at h2
  rcases h2 with ⟨h2, h7⟩ | ⟨h2, h7⟩
  · subst h2
    exact va_bast F.1 F.2.1 B.1 B.2.1 B.2.2.1 B.2.2.2.1.1 i0 t0 h5 h3 h4 hd (by rw [h7]; exact h6)
  · subst h2
    exact va_zast F.1 F.2.1 B.1 B.2.1 B.2.2.1 B.2.2.2.1.1 i0 t0 h5 h3 h4 hd (by rw [h7]; exact h6)
theorem zx_lbin_ok (hG : zx_ok ρ G) (B : zx_B D cl A b ex ad0 nL s ρ h lv sk H locs ls kc tys ws lc) (hz : zx_xlbin pc G h lv k sk = some z) (K : zx_KK p l e R s m args below meth c Q D cl A b ex ad0 nL ρ z) : ∃ (x y : Int64) (kr : List Value), kc = .long y :: .long x :: kr ∧ ∀ v : Int64, W p l e R s m args below meth c H locs k.1 k.2 Q (F0 m (pc + 1) ls (.long v :: kr)) := by
  unfold zx_xlbin at hz
  split at hz
  · rename_i r
    obtain ⟨y, kr0, rfl, B0⟩ := zx_topl B
    obtain ⟨x, kr, rfl, B1⟩ := zx_topl B0
    exact ⟨x, y, kr, rfl, fun v => zx_push_W (v := zx_lg) hG B1 hz ⟨v, rfl⟩ K⟩
  · cases hz
theorem zx_lsh_ok (hG : zx_ok ρ G) (B : zx_B D cl A b ex ad0 nL s ρ h lv sk H locs ls kc tys ws lc) (hz : zx_xlsh pc G h lv k sk = some z) (K : zx_KK p l e R s m args below meth c Q D cl A b ex ad0 nL ρ z) : ∃ (x : Int64) (y : Int32) (kr : List Value), kc = .int y :: .long x :: kr ∧ ∀ v : Int64, W p l e R s m args below meth c H locs k.1 k.2 Q (F0 m (pc + 1) ls (.long v :: kr)) := by
  unfold zx_xlsh at hz
  split at hz
  · rename_i e1 r
    obtain ⟨y, kr0, rfl, -, B0⟩ := zx_topi B
    obtain ⟨x, kr, rfl, B1⟩ := zx_topl B0
    exact ⟨x, y, kr, rfl, fun v => zx_push_W (v := zx_lg) hG B1 hz ⟨v, rfl⟩ K⟩
  · cases hz
theorem zx_step_ok {i : Instr} {len : Nat} (F : zx_FX p s m args meth c R cc own Ts nw cl A ex nL sts Y aos dt M) (hS : zx_SX b xs A s M ρ) (harr : ∀ ty ∈ [FieldType.int, FieldType.byte, FieldType.boolean, FieldType.long], Jvm.Cond.arrayClass ty ∈ Ts) (hd : decode cc pc = .ok (i, len)) (hlen : zx_istab i = true ∨ len = zx_len i) (hG : zx_ok ρ G) (B : zx_B D cl A b ex ad0 nL s ρ h lv sk H locs ls kc tys ws lc) (hz : zx_step M Y dt pc i G h lv k sk = some z) (K : zx_KK p l e R s m args below meth c Q D cl A b ex ad0 nL ρ z) : W p l e R s m args below meth c H locs k.1 k.2 Q (F0 m pc ls kc) := by
  obtain ⟨hx, hb, hown, hts, hnw, hA, hR, hin, hnL, hCX, hao, hCK, hMK⟩ := id F
  by_cases hT : zx_istab i = true
  · cases i
    case tableswitch d lo hi offs =>
      obtain ⟨x, kr, t, h1, h2, h3⟩ := zx_xtab_ok hG B hz K
      subst h1
      rcases h3 with ⟨h3, h4⟩ | ⟨h3, h4, off, h5, h6⟩
      · exact lv_tableOut hx hb hd h3 h4 h2
      · exact lv_tableIn hx hb hd h3 h4 h5 h6 h2
    all_goals exact absurd hT (fun q => nomatch (show false = true from q))
  · have hl : len = zx_len i := hlen.resolve_left hT
    subst hl
    cases i
    case iconst n => exact lv_iconst (v := Int32.ofInt n) hx hb hd rfl (zx_xk_ok hG B hz K (fun h1 h2 => zx_ofI (by omega) (by omega)))
    case bipush n => exact lv_bipush hx hb hd rfl (zx_xk_ok hG B hz K (fun h1 h2 => zx_b8 h1 h2))
    case sipush n => exact lv_sipush hx hb hd rfl (zx_xk_ok hG B hz K (fun h1 h2 => zx_b16 h1 h2))
    case ldc ix =>
      obtain ⟨v, h1, h2⟩ := zx_xint_ok hG B hz K
      obtain ⟨w, h3, h4⟩ := hMK.2.2.2.1 ix v h1
      exact lv_ldc hx hb hown (hts _ h4) hd (h2 w h3)
    case ldc_w ix =>
      obtain ⟨v, h1, h2⟩ := zx_xint_ok hG B hz K
      obtain ⟨w, h3, h4⟩ := hMK.2.2.2.1 ix v h1
      exact lv_ldcw hx hb hown (hts _ h4) hd (h2 w h3)
    case ldc2_w ix =>
      have hz : zx_xldc2 M pc G h lv k sk ix = some z := hz
      unfold zx_xldc2 at hz
      split at hz
      · rename_i h1
        obtain ⟨w, h2⟩ := hMK.2.2.2.2 ix h1
        exact lv_ldc2 hx hb hown (hts _ h2) hd (zx_push_W (v := zx_lg) hG B hz ⟨w, rfl⟩ K)
      · cases hz
    case lconst n => exact lv_lconst hx hb hd rfl (zx_push_W (v := zx_lg) hG B hz ⟨_, rfl⟩ K)
    case iload n =>
      obtain ⟨w, h1, h2⟩ := zx_xld_ok hG B hz K
      exact lv_iload hx hb hd h1 h2
    case iload_n n =>
      obtain ⟨w, h1, h2⟩ := zx_xld_ok hG B hz K
      exact lv_iload_n hx hb hd rfl h1 h2
    case lload n =>
      obtain ⟨w, h1, h2⟩ := zx_xlld_ok hG B hz K
      exact lv_lload hx hb hd h1 h2
    case lload_n n =>
      obtain ⟨w, h1, h2⟩ := zx_xlld_ok hG B hz K
      exact lv_lload_n hx hb hd rfl h1 h2
    case aload n =>
      obtain ⟨w, h1, h2⟩ := zx_xald_ok hG B hz K
      exact lv_aload hx hb hd h1 h2
    case aload_n n =>
      obtain ⟨w, h1, h2⟩ := zx_xald_ok hG B hz K
      exact lv_aload_n hx hb hd rfl h1 h2
    case istore n =>
      obtain ⟨w, kr, h1, h2, h3⟩ := zx_xst_ok hG hnL B hz K
      subst h1
      exact lv_istore hx hb hd B.2.2.2.2.2.2.1 h2 rfl h3
    case istore_n n =>
      obtain ⟨w, kr, h1, h2, h3⟩ := zx_xst_ok hG hnL B hz K
      subst h1
      exact lv_istore_n hx hb hd rfl B.2.2.2.2.2.2.1 h2 rfl h3
    case lstore n =>
      obtain ⟨w, kr, h1, h2, h3⟩ := zx_xlst_ok hG hnL B hz K
      subst h1
      exact lv_lstore hx hb hd B.2.2.2.2.2.2.1 h2 rfl h3
    case lstore_n n =>
      obtain ⟨w, kr, h1, h2, h3⟩ := zx_xlst_ok hG hnL B hz K
      subst h1
      exact lv_lstore_n hx hb hd rfl B.2.2.2.2.2.2.1 h2 rfl h3
    case astore n =>
      obtain ⟨w, kr, h1, h2, h3⟩ := zx_xast_ok hG hnL B hz K
      subst h1
      exact lv_astore hx hb hd B.2.2.2.2.2.2.1 h2 rfl h3
    case astore_n n =>
      obtain ⟨w, kr, h1, h2, h3⟩ := zx_xast_ok hG hnL B hz K
      subst h1
      exact lv_astore_n hx hb hd rfl B.2.2.2.2.2.2.1 h2 rfl h3
    case iinc n c0 =>
      obtain ⟨w, j, h1, h2, h3⟩ := zx_xinc_ok hG hnL B hz K
      exact lv_iinc hx hb hd B.2.2.2.2.2.2.1 h1 rfl h2 rfl h3
    case iadd =>
      obtain ⟨x, y, kr, e1, e2, q, h1, h2, h3, hq, h4⟩ := zx_xbin_ok B hz K
      subst h1
      exact lv_iadd hx hb hd (h4 _ (zx_val_ok hG hq (zx_add_ev h2 h3) (fun g1 g2 => zx_addI x y g1 g2)))
    case isub =>
      obtain ⟨x, y, kr, e1, e2, q, h1, h2, h3, hq, h4⟩ := zx_xbin_ok B hz K
      subst h1
      exact lv_isub hx hb hd (h4 _ (zx_val_ok hG hq (zx_sub_ev h2 h3) (fun g1 g2 => zx_subI x y g1 g2)))
    case imul =>
      obtain ⟨x, y, kr, e1, e2, q, h1, h2, h3, hq, h4⟩ := zx_xbin_ok B hz K
      subst h1
      exact lv_imul hx hb hd (h4 _ (zx_mul_ok hG h2 h3 hq))
    case idiv =>
      obtain ⟨x, y, kr, e1, e2, q, h1, h2, h3, hq, h4⟩ := zx_xbin_ok B hz K
      subst h1
      exact lv_idiv hx hb hd (zx_div_ok (b := b) (ex := ex) (ad := zx_as ws) hG h2 h3 hq).1 (h4 _ (zx_div_ok hG h2 h3 hq).2)
    case irem =>
      obtain ⟨x, y, kr, e1, e2, q, h1, h2, h3, hq, h4⟩ := zx_xbin_ok B hz K
      subst h1
      exact lv_irem hx hb hd (zx_rem_ok (b := b) (ex := ex) (ad := zx_as ws) hG h2 h3 hq).1 (h4 _ (zx_rem_ok hG h2 h3 hq).2)
    case iand =>
      obtain ⟨x, y, kr, e1, e2, q, h1, h2, h3, hq, h4⟩ := zx_xbin_ok B hz K
      subst h1
      exact lv_iand hx hb hd (h4 _ (zx_and_ok hG h3 hq))
    case ior =>
      obtain ⟨x, y, kr, e1, e2, q, h1, h2, h3, hq, h4⟩ := zx_xbin_ok B hz K
      subst h1
      exact lv_ior hx hb hd (h4 _ (by cases hq; exact zx_full_ok hG))
    case ixor =>
      obtain ⟨x, y, kr, e1, e2, q, h1, h2, h3, hq, h4⟩ := zx_xbin_ok B hz K
      subst h1
      exact lv_ixor hx hb hd (h4 _ (by cases hq; exact zx_full_ok hG))
    case ishl =>
      obtain ⟨x, y, kr, e1, e2, q, h1, h2, h3, hq, h4⟩ := zx_xbin_ok B hz K
      subst h1
      exact lv_ishl hx hb hd (h4 _ (by cases hq; exact zx_full_ok hG))
    case ishr =>
      obtain ⟨x, y, kr, e1, e2, q, h1, h2, h3, hq, h4⟩ := zx_xbin_ok B hz K
      subst h1
      exact lv_ishr hx hb hd (h4 _ (by cases hq; exact zx_full_ok hG))
    case i2b =>
      have hz : zx_xi2b pc G h lv k sk = some z := hz
      unfold zx_xi2b at hz
      split at hz
      · rename_i x1 r
        obtain ⟨x, kr, rfl, h2, B1⟩ := zx_topi B
        split at hz
        · rename_i t ht
          obtain ⟨q1, q2⟩ := zx_rng_ok hG ht h2
          have hnar : ∀ w : Int32, -128 ≤ w.toInt8.toInt32.toInt ∧ w.toInt8.toInt32.toInt ≤ 127 := by
            intro w
            rw [Int8.toInt_toInt32]
            exact ⟨Int8.le_toInt _, by have := Int8.toInt_lt w.toInt8; omega⟩
          by_cases hi : zx_in t (-128) 127 = true
          · rw [if_pos hi] at hz
            refine lv_i2b hx hb hd rfl (zx_go_W B1 hz (fun q hq => ?_) K)
            cases hq
            obtain ⟨q3, q4⟩ := zx_in_iff.mp hi
            have h9 : x.toInt8.toInt32 = x := zx_nar8 (w := x) (by omega) (by omega)
            rw [h9]
            exact zx_same_ok hG h2
          · rw [if_neg hi] at hz
            refine lv_i2b hx hb hd rfl (zx_go_W B1 hz (fun q hq => ?_) K)
            cases hq
            exact zx_fr_ok hG (hnar x).1 (hnar x).2
        · cases hz
      · cases hz
    case i2l =>
      have hz : zx_xi2l pc G h lv k sk = some z := hz
      unfold zx_xi2l at hz
      split at hz
      · rename_i x1 r
        obtain ⟨x, kr, rfl, h2, B1⟩ := zx_topi B
        exact lv_i2l hx hb hd rfl (zx_push_W (v := zx_lg) hG B1 hz ⟨_, rfl⟩ K)
      · cases hz
    case l2i =>
      have hz : zx_xl2i pc G h lv k sk = some z := hz
      unfold zx_xl2i at hz
      split at hz
      · rename_i r
        obtain ⟨x, kr, rfl, B1⟩ := zx_topl B
        exact lv_l2i hx hb hd rfl (zx_go_W B1 hz (fun q hq => by cases hq; exact zx_full_ok hG) K)
      · cases hz
    case land =>
      obtain ⟨x, y, kr, h1, h2⟩ := zx_lbin_ok hG B hz K
      subst h1
      exact lv_land hx hb hd (h2 _)
    case lor =>
      obtain ⟨x, y, kr, h1, h2⟩ := zx_lbin_ok hG B hz K
      subst h1
      exact lv_lor hx hb hd (h2 _)
    case lxor =>
      obtain ⟨x, y, kr, h1, h2⟩ := zx_lbin_ok hG B hz K
      subst h1
      exact lv_lxor hx hb hd (h2 _)
    case lshl =>
      obtain ⟨x, y, kr, h1, h2⟩ := zx_lsh_ok hG B hz K
      subst h1
      exact lv_lshl hx hb hd rfl (h2 _)
    case lshr =>
      obtain ⟨x, y, kr, h1, h2⟩ := zx_lsh_ok hG B hz K
      subst h1
      exact lv_lshr hx hb hd rfl (h2 _)
    case lcmp =>
      have hz : zx_xlcmp pc G h lv k sk = some z := hz
      unfold zx_xlcmp at hz
      split at hz
      · rename_i r
        obtain ⟨y, kr0, rfl, B0⟩ := zx_topl B
        obtain ⟨x, kr, rfl, B1⟩ := zx_topl B0
        exact W.lcmp hx hb hd (zx_go_W B1 hz (fun q hq => by cases hq; exact zx_full_ok hG) K)
      · cases hz
    case dup =>
      have hz : zx_xdup pc G h lv k sk = some z := hz
      unfold zx_xdup at hz
      split at hz
      · rename_i v r
        obtain ⟨x, kr, rfl, hv, B1⟩ := zx_top1 B
        split at hz
        · rename_i hc
          exact lv_dup hx hb hd (by rw [zx_R_cat hv]; exact hc) (zx_push_W hG B hz hv K)
        · cases hz
      · cases hz
    case pop =>
      have hz : zx_xpop pc G h lv k sk = some z := hz
      unfold zx_xpop at hz
      split at hz
      · rename_i v r
        obtain ⟨x, kr, rfl, hv, B1⟩ := zx_top1 B
        split at hz
        · rename_i hc
          exact lv_pop hx hb hd (by rw [zx_R_cat hv]; exact hc) (zx_K1 K (zx_one hz) (zx_J_same hG B1))
        · cases hz
      · cases hz
    case dup2 =>
      have hz : zx_xdup2 pc G h lv k sk = some z := hz
      unfold zx_xdup2 at hz
      split at hz
      · rename_i v w r
        obtain ⟨x, kr0, rfl, hv, B1⟩ := zx_top1 B
        obtain ⟨y, kr, rfl, hw, B2⟩ := zx_top1 B1
        split at hz
        · rename_i hc
          exact lv_dup2_11 hx hb hd (by rw [zx_R_cat hv]; exact hc.1) (by rw [zx_R_cat hw]; exact hc.2) (zx_K1 K (zx_one hz) (zx_J_same hG (zx_B_sk B ⟨hv, hw, hv, hw, B2.2.2.2.2.2.2.2⟩)))
        · cases hz
      · cases hz
    case goto off =>
      have hz : zx_xgoto pc G h lv k sk off = some z := hz
      unfold zx_xgoto at hz
      split at hz
      · rename_i t ht
        exact lv_goto hx hb hd (zx_tg_ok ht) (zx_K1 K (zx_one hz) (zx_J_same hG B))
      · cases hz
    case ifCond cn off =>
      obtain ⟨x, kr, t, h1, h2, h3, h4⟩ := zx_xif_ok hG B hz K
      subst h1
      have e0 : (0 : Int32).toInt = 0 := rfl
      cases cn
      · exact lv_if_eq hx hb hd h2 (fun q => h3 (by show x.toInt = 0; rw [q]; rfl)) (fun q => h4 (fun g => q (Int32.toInt_inj.mp g)))
      · exact lv_if_ne hx hb hd h2 (fun q => h3 (fun g => q (Int32.toInt_inj.mp g))) (fun q => h4 (fun g => g (by rw [q]; rfl)))
      · exact lv_if_lt hx hb hd h2 (fun q => h3 (zx_dec_lt.mp q)) (fun q => h4 (fun g => q (zx_dec_lt.mpr g)))
      · exact lv_if_ge hx hb hd h2 (fun q => h3 (by have := Int32.le_iff_toInt_le.mp q; rwa [e0] at this)) (fun q => h4 (fun g => q (Int32.le_iff_toInt_le.mpr (by rw [e0]; exact g))))
      · exact lv_if_gt hx hb hd h2 (fun q => h3 (by have := Int32.lt_iff_toInt_lt.mp q; rwa [e0] at this)) (fun q => h4 (fun g => q (Int32.lt_iff_toInt_lt.mpr (by rw [e0]; exact g))))
      · exact lv_if_le hx hb hd h2 (fun q => h3 (by have := Int32.le_iff_toInt_le.mp q; rwa [e0] at this)) (fun q => h4 (fun g => q (Int32.le_iff_toInt_le.mpr (by rw [e0]; exact g))))
    case if_icmp cn off =>
      obtain ⟨x, y, kr, t, h1, h2, h3, h4⟩ := zx_xicmp_ok hG B hz K
      subst h1
      cases cn
      · exact lv_icmp_eq hx hb hd h2 (fun q => h3 (zx_dec_eq.mp q)) (fun q => h4 (fun g => q (zx_dec_eq.mpr g)))
      · exact lv_icmp_ne hx hb hd h2 (fun q => h3 (fun g => q (zx_dec_eq.mpr g))) (fun q => h4 (fun g => g (zx_dec_eq.mp q)))
      · exact lv_icmp_lt hx hb hd h2 (fun q => h3 (zx_dec_lt2.mp q)) (fun q => h4 (fun g => q (zx_dec_lt2.mpr g)))
      · exact lv_icmp_ge hx hb hd h2 (fun q => h3 (by have := Int32.le_iff_toInt_le.mp q; show 0 ≤ x.toInt - y.toInt; omega)) (fun q => h4 (fun g => q (Int32.le_iff_toInt_le.mpr (by have g : 0 ≤ x.toInt - y.toInt := g; omega))))
      · exact lv_icmp_gt hx hb hd h2 (fun q => h3 (by have := Int32.lt_iff_toInt_lt.mp q; show 0 < x.toInt - y.toInt; omega)) (fun q => h4 (fun g => q (Int32.lt_iff_toInt_lt.mpr (by have g : 0 < x.toInt - y.toInt := g; omega))))
      · exact lv_icmp_le hx hb hd h2 (fun q => h3 (zx_dec_le2.mp q)) (fun q => h4 (fun g => q (zx_dec_le2.mpr g)))
    case getfield ix => exact zx_xget_ok F hd hG B hz K
    case putfield ix => exact zx_xput_ok F hd hG B hz K
    case getstatic ix => exact zx_xgs_ok F hd hG B hz K
    case iaload => exact zx_iald_ok F hS hd hG B hz K
    case baload => exact zx_bald_ok F hd hG B hz K
    case aaload => exact zx_aald_ok F hd hG B hz K
    case iastore => exact zx_iast_ok F hd hG B hz K
    case bastore => exact zx_bast_ok F hd hG B hz K
    case aastore => exact zx_xqs_ok F hd hG B hz K
    case arraylength =>
      have hz : zx_xalen M Y pc G h lv k sk = some z := hz
      unfold zx_xalen at hz
      split at hz
      · exact zx_xsn_ok F hS hd hG B hz K
      · split at hz
        · exact zx_xyn_ok F hd hG B hz K
        · exact zx_xlen_ok F hd hG B hz K
      · cases hz
    case new ix => exact zx_xnew_ok F hd hG B hz K
    case newarray a =>
      refine zx_xna_ok F (fun ty hty => ?_) hd hG B hz K
      have hz : zx_xna M pc G h lv k sk a = some z := hz
      refine harr ty ?_
      subst hty
      cases a <;> first | decide | skip
      all_goals
        exfalso
        unfold zx_xna at hz
        split at hz
        · split at hz
          · cases hz
          · cases hz
        · cases hz
    case anewarray ix => exact zx_xnq_ok F hd hG B hz K
    case tableswitch d lo hi offs => exact absurd rfl hT
    all_goals exact nomatch (show (none : zx_O) = some z from hz)
end ZXS
end
section
/-! zx: whole methods -/
/-- an end: bounds, cells, the answer -/
abbrev zx_Ou : Type := zx_G × (List zx_C × Option zx_V)
/-- a method: its code; the tables; its calls (sort, which, how many with the receiver, the receiver's class); the sort of its answer (4: none) -/
abbrev zx_MD : Type := List (Nat × Instr × Nat) × (zx_M × ((Nat → Option (Nat × Nat × Nat × Nat)) × Nat))
abbrev zx_Fn : Type := Nat → zx_G → List zx_C → List zx_V → Option (List zx_Ou)
def zx_inv (i : Instr) : Option (Nat × Nat) := match i with
  | .invokevirtual ix => some (ix, 0)
  | .invokespecial ix => some (ix, 2)
  | .invokestatic ix => some (ix, 1)
  | _ => none
/-- the sort of a call (0 a method, 1 static, 2 a constructor, 3 and 4: 1 and 2 among nest mates, 5 Object's constructor), and its instruction -/
def zx_kok (kd i : Nat) : Bool := match kd with
  | 0 => i == 0
  | 1 => i == 1
  | 3 => i == 1
  | 2 => i == 2
  | 4 => i == 2
  | _ => false
def zx_isret (i : Instr) : Bool := match i with
  | .return_ => true
  | .ireturn => true
  | .areturn => true
  | .lreturn => true
  | _ => false
def zx_le2 (k r : Nat × Nat) : Bool := Nat.ble k.1 r.1 && Nat.ble k.2 r.2
def zx_rtV (rt : Nat) (G : zx_G) (h : List zx_C) (sk : List zx_V) : Option (List zx_Ou) := match sk with
  | [] => if rt = 4 then some [(G, h, none)] else none
  | _ => none
def zx_rtI (rt : Nat) (G : zx_G) (h : List zx_C) (sk : List zx_V) : Option (List zx_Ou) := match sk with
  | [.inl e] => if zx_fit G rt (.inl e) = true then some [(G, h, some (.inl e))] else none
  | _ => none
def zx_rtA (rt : Nat) (G : zx_G) (h : List zx_C) (sk : List zx_V) : Option (List zx_Ou) := match sk with
  | [.inr (.inl q)] => if rt = 3 then some [(G, h, some (.inr (.inl q)))] else none
  | _ => none
def zx_rtL (rt : Nat) (G : zx_G) (h : List zx_C) (sk : List zx_V) : Option (List zx_Ou) := match sk with
  | [.inr (.inr true)] => if rt = 2 then some [(G, h, some zx_lg)] else none
  | _ => none
def zx_retv (i : Instr) (rt : Nat) (G : zx_G) (h : List zx_C) (sk : List zx_V) : Option (List zx_Ou) := match i with
  | .return_ => zx_rtV rt G h sk
  | .ireturn => zx_rtI rt G h sk
  | .areturn => zx_rtA rt G h sk
  | .lreturn => zx_rtL rt G h sk
  | _ => none
def zx_cats : List zx_V → Nat
  | [] => 0
  | v :: r => zx_cat v + zx_cats r
/-- all of them are objects of a class -/
def zx_objs (h : List zx_C) (ci : Nat) : List Nat → Bool
  | [] => true
  | id :: r => if id < 64 then false else match h[id - 64]? with
    | some (.inl o) => if o.1 = ci then zx_objs h ci r else false
    | _ => false
def zx_rc0 (h : List zx_C) (ci : Nat) (as : List zx_V) : Bool := match as with
  | .inr (.inl (ids, false)) :: _ => zx_objs h ci ids
  | _ => false
def zx_rc1 (as : List zx_V) : Bool := match as with
  | .inr (.inl (_, false)) :: _ => true
  | _ => false
def zx_recvr (kd ci : Nat) (h : List zx_C) (as : List zx_V) : Bool := match kd with
  | 0 => zx_rc0 h ci as
  | 2 => zx_rc1 as
  | 4 => zx_rc1 as
  | _ => true
/-- behind a call: the ends of the callee, each with the stack and the count -/
def zx_back (rest : List zx_V) (k : Nat × Nat) : List zx_Ou → List (zx_G × (List zx_C × (List zx_V × (Nat × Nat))))
  | [] => []
  | o :: r => (o.1, o.2.1, o.2.2.toList ++ rest, k) :: zx_back rest k r
def zx_call (M : zx_M) (cf : Nat → Option (Nat × Nat × Nat × Nat)) (rmt : List (Nat × Nat)) (f : zx_Fn) (ix : Nat × Nat) (G : zx_G) (h : List zx_C) (k : Nat × Nat) (sk : List zx_V) : Option (List (zx_G × (List zx_C × (List zx_V × (Nat × Nat))))) := match cf ix.1 with
  | some q => if q.1 = 5 ∧ ix.2 = 2 then (match sk with
      | .inr (.inl (_, false)) :: r => if zx_cats r ≤ 8 then some [(G, h, r, k)] else none
      | _ => none) else (match rmt[q.2.1]? with
      | some rm => if zx_kok q.1 ix.2 = true ∧ (sk.take q.2.2.1).length = q.2.2.1 ∧ zx_cats (sk.drop q.2.2.1) ≤ 8 ∧ zx_le2 (k.1 + rm.1, k.2 + rm.2) (zx_mR M) = true ∧ zx_recvr q.1 q.2.2.2 h (sk.take q.2.2.1).reverse = true then (match f q.2.1 G h (sk.take q.2.2.1).reverse with
        | some os => some (zx_back (sk.drop q.2.2.1) (k.1 + rm.1, k.2 + rm.2) os)
        | none => none) else none
      | none => none)
  | none => none
def zx_drop (t : Nat) : List (Nat × Instr × Nat) → List (Nat × Instr × Nat)
  | [] => []
  | x :: r => if x.1 = t then x :: r else zx_drop t r
def zx_sk (tbl nx : List (Nat × Instr × Nat)) (t : Nat) : List (Nat × Instr × Nat) := match nx with
  | [] => zx_drop t tbl
  | x :: _ => if x.1 = t then nx else zx_drop t tbl
theorem zx_drop_ok {t : Nat} : ∀ {l : List (Nat × Instr × Nat)}, (∀ x ∈ zx_drop t l, x ∈ l) ∧ ∀ x r, zx_drop t l = x :: r → x.1 = t
  | [] => ⟨fun _ h => h, fun _ _ h => nomatch h⟩
  | y :: l => by
    rw [zx_drop]
    by_cases hy : y.1 = t
    · rw [if_pos hy]
      exact ⟨fun _ h => h, fun x r h => by cases h; exact hy⟩
    · rw [if_neg hy]
      exact ⟨fun x h => List.mem_cons_of_mem _ (zx_drop_ok.1 x h), zx_drop_ok.2⟩
theorem zx_sk_ok {tbl nx : List (Nat × Instr × Nat)} {t : Nat} (h : ∀ x ∈ nx, x ∈ tbl) : (∀ x ∈ zx_sk tbl nx t, x ∈ tbl) ∧ ∀ x r, zx_sk tbl nx t = x :: r → x.1 = t := by
  unfold zx_sk
  split
  · exact zx_drop_ok
  · rename_i y r
    split
    · rename_i hy
      exact ⟨h, fun x r h => by cases h; exact hy⟩
    · exact zx_drop_ok
/-- an end, or a place where the run is cut -/
abbrev zx_Os : Type := zx_Ou ⊕ (Nat × zx_T)
def zx_lefts : List zx_Ou → List zx_Os
  | [] => []
  | o :: r => .inl o :: zx_lefts r
def zx_inls : List zx_Os → Option (List zx_Ou)
  | [] => some []
  | .inl o :: r => match zx_inls r with
    | some q => some (o :: q)
    | none => none
  | .inr _ :: _ => none
theorem zx_lefts_mem {o : zx_Ou} : ∀ {l : List zx_Ou}, o ∈ l → .inl o ∈ zx_lefts l
  | [], h => nomatch h
  | a :: r, h => by
    rw [zx_lefts]
    rcases List.mem_cons.mp h with e | e
    · subst e; exact List.mem_cons_self
    · exact List.mem_cons_of_mem _ (zx_lefts_mem e)
theorem zx_inls_mem : ∀ {l : List zx_Os} {q : List zx_Ou}, zx_inls l = some q → ∀ x ∈ l, ∃ o ∈ q, x = .inl o
  | [], _, _, _, hx => nomatch hx
  | .inr _ :: _, _, h, _, _ => nomatch h
  | .inl a :: r, q, h, x, hx => by
    rw [zx_inls] at h
    split at h
    · rename_i q' hq
      cases h
      rcases List.mem_cons.mp hx with e | e
      · exact ⟨a, List.mem_cons_self, e⟩
      · obtain ⟨o, h1, h2⟩ := zx_inls_mem hq x e
        exact ⟨o, List.mem_cons_of_mem _ h1, h2⟩
    · cases h
abbrev zx_Ih : Type := List (Nat × Instr × Nat) → zx_G → List zx_C → List (Nat × zx_V) → Nat × Nat → List zx_V → Option (List zx_Os)
def zx_on (stp : Nat → Bool) (tbl nx : List (Nat × Instr × Nat)) (ih : zx_Ih) (q : Nat × zx_T) : Option (List zx_Os) :=
  if stp q.1 = true then some [.inr q] else ih (zx_sk tbl nx q.1) q.2.1 q.2.2.1 q.2.2.2.1 q.2.2.2.2.2 q.2.2.2.2.1
def zx_ex1 (Y : zx_Y) (dt : List (List Nat)) (rmt : List (Nat × Nat)) (stp : Nat → Bool) (md : zx_MD) (f : zx_Fn) (ih : zx_Ih) (x : Nat × Instr × Nat) (nx : List (Nat × Instr × Nat)) (G : zx_G) (h : List zx_C) (lv : List (Nat × zx_V)) (k : Nat × Nat) (sk : List zx_V) : Option (List zx_Os) := match zx_inv x.2.1 with
  | some ix => (match zx_call md.2.1 md.2.2.1 rmt f ix G h k sk with
    | some l => zx_all (fun q => zx_on stp md.1 nx ih (x.1 + 3, q.1, q.2.1, lv, q.2.2.1, q.2.2.2)) l
    | none => none)
  | none => if zx_isret x.2.1 = true then (if zx_le2 k (zx_mR md.2.1) = true then (match zx_retv x.2.1 md.2.2.2 G h sk with
      | some l => some (zx_lefts l)
      | none => none) else none) else (match zx_step md.2.1 Y dt x.1 x.2.1 G h lv k sk with
    | some z => zx_all (zx_on stp md.1 nx ih) z
    | none => none)
noncomputable def zx_ex (Y : zx_Y) (dt : List (List Nat)) (rmt : List (Nat × Nat)) (stp : Nat → Bool) (md : zx_MD) (f : zx_Fn) (n : Nat) : zx_Ih :=
  Nat.rec (motive := fun _ => zx_Ih) (fun _ _ _ _ _ _ => none)
    (fun _ ih cur G h lv k sk => match cur with
      | [] => none
      | x :: nx => zx_ex1 Y dt rmt stp md f ih x nx G h lv k sk) n
theorem zx_ex_s {Y : zx_Y} {dt : List (List Nat)} {rmt : List (Nat × Nat)} {stp : Nat → Bool} {md : zx_MD} {f : zx_Fn} {n : Nat} {x : Nat × Instr × Nat} {nx : List (Nat × Instr × Nat)} {G : zx_G} {h : List zx_C} {lv : List (Nat × zx_V)} {k : Nat × Nat} {sk : List zx_V} : zx_ex Y dt rmt stp md f (n + 1) (x :: nx) G h lv k sk = zx_ex1 Y dt rmt stp md f (zx_ex Y dt rmt stp md f n) x nx G h lv k sk := rfl
def zx_args : Nat → List zx_V → List (Nat × zx_V)
  | _, [] => []
  | i, v :: r => (i, v) :: zx_args (if zx_cat v = 2 then i + 2 else i + 1) r
theorem zx_args_ok {b : Nat} {ex : List Nat} {ρ : List Int} {ad : List Nat} : ∀ {as : List zx_V} {av : List Value} (i : Nat), zx_F2 (zx_R b ex ρ ad) as av → zx_F2 (fun x y => x.1 = y.1 ∧ zx_R b ex ρ ad x.2 y.2) (zx_args i as) (lv_args i av)
  | [], [], _, _ => trivial
  | v :: r, x :: m, i, h => by
    show zx_F2 _ ((i, v) :: zx_args (if zx_cat v = 2 then i + 2 else i + 1) r) ((i, x) :: lv_args (if x.category = 2 then i + 2 else i + 1) m)
    rw [zx_R_cat h.1]
    exact ⟨⟨rfl, h.1⟩, zx_args_ok _ h.2⟩
  | [], _ :: _, _, h => h.elim
  | _ :: _, [], _, h => h.elim
/-- a method to its end, calls no deeper than d -/
def zx_run1 (Y : zx_Y) (dt : List (List Nat)) (rmt : List (Nat × Nat)) (P : List (Option zx_MD)) (xf : zx_Fn) (ex : zx_MD → zx_Ih) (j : Nat) (G : zx_G) (h : List zx_C) (as : List zx_V) : Option (List zx_Ou) := match P[j]? with
  | some (some md) => if zx_cats as ≤ zx_mV md.2.1 then (match ex md md.1 G h (zx_args 0 as) (0, 0) [] with
      | some l => zx_inls l
      | none => none) else none
  | some none => xf j G h as
  | none => none
noncomputable def zx_run (Y : zx_Y) (dt : List (List Nat)) (rmt : List (Nat × Nat)) (P : List (Option zx_MD)) (xf : zx_Fn) (fuel d : Nat) : zx_Fn :=
  Nat.rec (motive := fun _ => zx_Fn) (fun _ _ _ _ => none) (fun _ ih => zx_run1 Y dt rmt P xf (fun md => zx_ex Y dt rmt (fun _ => false) md ih fuel)) d
theorem zx_run_s {Y : zx_Y} {dt : List (List Nat)} {rmt : List (Nat × Nat)} {P : List (Option zx_MD)} {xf : zx_Fn} {fuel d j : Nat} {G : zx_G} {h : List zx_C} {as : List zx_V} : zx_run Y dt rmt P xf fuel (d + 1) j G h as = zx_run1 Y dt rmt P xf (fun md => zx_ex Y dt rmt (fun _ => false) md (zx_run Y dt rmt P xf fuel d) fuel) j G h as := rfl
end
section
/-! zx: calls -/
def zx_rv (b : Nat) (ex : List Nat) (ρ : List Int) (ad : List Nat) (o : Option zx_V) (v : Option Value) : Prop := match o, v with
  | none, none => True
  | some a, some x => zx_R b ex ρ ad a x
  | _, _ => False
abbrev zx_PR : Type := List (MethodName × ByteArray × Nat × Option FieldType)
/-- what a state has beside the cells -/
def zx_EV (ex : List Nat) (A : Nat → Prop) (sts : List (String × String × String × Nat)) (Y : zx_Y) (nw : List Jvm.Cond) (aos : List String) (U : State) : Prop :=
  zx_CX ex A U U.heap sts Y ∧ (∀ w ∈ nw, va_Nw w U) ∧ (∀ C ∈ aos, va_AO C U)
def zx_Pc (D : va_G) (cl : List vw_C) (A : Nat → Prop) (ex : List Nat) (sts : List (String × String × String × Nat)) (Y : zx_Y) (nw : List Jvm.Cond) (aos : List String) (tys : List (ClassId × FieldType)) (ws : va_W) (sz : Nat) (av : List Value) : Array Value → State → Prop :=
  va_Pc av (fun U => U.heap.size = sz ∧ va_P D cl ws U.heap ∧ va_K D cl tys U ∧ va_D A ws ∧ zx_EV ex A sts Y nw aos U)
def zx_Qc (D : va_G) (cl : List vw_C) (A : Nat → Prop) (b : Nat) (ex : List Nat) (ρ : List Int) (ws : va_W) (os : List zx_Ou) : Array Value → State → Outcome → State → Prop := fun _ st oc t =>
  (∃ o ∈ os, ∃ (v : Option Value) (r2 : List Int) (tys' : List (ClassId × FieldType)) (ws' : va_W), oc = .returned v ∧ zx_ok (ρ ++ r2) o.1 ∧ va_K D cl tys' t ∧ va_P D cl ws' t.heap ∧ va_D A ws' ∧ (∃ xt, zx_as ws' = zx_as ws ++ xt) ∧ zx_F2 (fun c q => zx_RC cl b ex (ρ ++ r2) (zx_as ws') tys' c q.2) o.2.1 ws' ∧ zx_rv b ex (ρ ++ r2) (zx_as ws') o.2.2 v) ∧ va_F A st t
/-- the runs of f are the machine's -/
def zx_FJ (l : Launch) (cl : List vw_C) (Ts nw : List Jvm.Cond) (sts : List (String × String × String × Nat)) (Y : zx_Y) (aos : List String) (PR : zx_PR) (rmt : List (Nat × Nat)) (d : Nat) (f : zx_Fn) (j : Nat) : Prop :=
  ∀ (y : MethodName) (cc : ByteArray) (maxL : Nat) (ret : Option FieldType) (rm : Nat × Nat), PR[j]? = some (y, cc, maxL, ret) → rmt[j]? = some rm →
  ∀ (G : zx_G) (h : List zx_C) (as : List zx_V) (os : List zx_Ou), f j G h as = some os →
  ∀ (D : va_G) (A : Nat → Prop) (b : Nat) (ex : List Nat) (ρ : List Int) (tys : List (ClassId × FieldType)) (ws : va_W) (sz : Nat) (av : List Value), zx_ok ρ G → zx_F2 (fun c q => zx_RC cl b ex ρ (zx_as ws) tys c q.2) h ws → zx_F2 (zx_R b ex ρ (zx_as ws)) as av → (∀ q, sz ≤ q → A q) →
  Met l y (Jvm.Cond.code y cc maxL ret :: Ts) ({ frames := d, cells := rm.1, slots := rm.2, locals := 100 * d }) (zx_Pc D cl A ex sts Y nw aos tys ws sz av) (zx_Qc D cl A b ex ρ ws os) rm.1 rm.2 A
def zx_FOK (l : Launch) (cl : List vw_C) (Ts nw : List Jvm.Cond) (sts : List (String × String × String × Nat)) (Y : zx_Y) (aos : List String) (PR : zx_PR) (rmt : List (Nat × Nat)) (d : Nat) (f : zx_Fn) : Prop := ∀ j : Nat, zx_FJ l cl Ts nw sts Y aos PR rmt d f j
/-- the links of a class's calls -/
def zx_LK (own : String) (cl : List vw_C) (Ts nw : List Jvm.Cond) (PR : zx_PR) (cf : Nat → Option (Nat × Nat × Nat × Nat)) : Prop :=
  ∀ ix q, cf ix = some q → (q.1 = 5 → Jvm.Cond.methodLink own ix objectInit ∈ Ts ∧ Jvm.Cond.instanceMethod objectInit ∈ Ts ∧ Jvm.Cond.code objectInit ⟨#[0xb1]⟩ 1 none ∈ Ts) ∧
    (q.1 ≠ 5 → ∃ (y : MethodName) (cc : ByteArray) (maxL : Nat) (ret : Option FieldType), PR[q.2.1]? = some (y, cc, maxL, ret) ∧ maxL ≤ 80 ∧ Jvm.Cond.code y cc maxL ret ∈ Ts ∧ Jvm.Cond.initialized y.cls ∈ Ts ∧ y.cls ≠ "java/lang/invoke/MethodHandle" ∧ y.cls ≠ "java/lang/invoke/VarHandle" ∧
      (q.1 = 0 → Jvm.Cond.methodLink own ix y ∈ Ts ∧ Jvm.Cond.instanceMethod y ∈ Ts ∧ Jvm.Cond.selects y.cls y y ∈ Ts ∧ (parseMethodDescriptor y.desc).map (fun d => d.parameters.length) = some (q.2.2.1 - 1) ∧ ∃ (T : u_T) (N : Nat), cl[q.2.2.2]? = some (y.cls, T, N)) ∧
      (q.1 = 1 → Jvm.Cond.methodLink own ix y ∈ Ts ∧ Jvm.Cond.static y ∈ Ts ∧ (parseMethodDescriptor y.desc).map (fun d => d.parameters.length) = some q.2.2.1) ∧
      (q.1 = 2 → Jvm.Cond.methodLink own ix y ∈ Ts ∧ Jvm.Cond.instanceMethod y ∈ Ts ∧ y.name = "<init>" ∧ ret = none ∧ (parseMethodDescriptor y.desc).map (fun d => d.parameters.length) = some (q.2.2.1 - 1)) ∧
      (q.1 = 3 → ∃ host, Jvm.Cond.methodLinkNest own ix y host ∈ nw ∧ Jvm.Cond.static y ∈ Ts ∧ (parseMethodDescriptor y.desc).map (fun d => d.parameters.length) = some q.2.2.1) ∧
      (q.1 = 4 → ∃ host, Jvm.Cond.methodLinkNest own ix y host ∈ nw ∧ Jvm.Cond.instanceMethod y ∈ Ts ∧ y.name = "<init>" ∧ ret = none ∧ (parseMethodDescriptor y.desc).map (fun d => d.parameters.length) = some (q.2.2.1 - 1)))
def zx_nk (w : Jvm.Cond) : Bool := match w with
  | .fieldLinkNest _ _ _ _ _ _ => true
  | .methodLinkNest _ _ _ _ => true
  | _ => false
theorem zx_nw_warm {nw : List Jvm.Cond} {s U : State} (hk : nw.all zx_nk = true) (hW : s.WarmedH U.vm) (h : ∀ w ∈ nw, va_Nw w s) : ∀ w ∈ nw, va_Nw w U := by
  intro w hw
  have h1 := List.all_eq_true.mp hk w hw
  have h2 := h w hw
  cases w <;> first | exact va_Nw.warmF hW h2 | exact va_Nw.warmM hW h2 | cases h1
theorem zx_nw_same {nw : List Jvm.Cond} {s U : State} (hk : nw.all zx_nk = true) (hv : s.vm = U.vm) (h : ∀ w ∈ nw, va_Nw w s) : ∀ w ∈ nw, va_Nw w U := by
  intro w hw
  have h1 := List.all_eq_true.mp hk w hw
  have h2 := h w hw
  cases w <;> first | exact va_Nw.same rfl hv h2 | cases h1
theorem zx_CX_move {ex : List Nat} {A : Nat → Prop} {s U : State} {H : Heap} {sts : List (String × String × String × Nat)} {Y : zx_Y} (hvm : s.vm.Alike U.vm) (hk : ∀ a : Nat, a < s.heap.size → ¬ A a → H[a]? = s.heap[a]?) (h : zx_CX ex A s s.heap sts Y) : zx_CX ex A U H sts Y :=
  ⟨fun q hq => by obtain ⟨a, h1, h2⟩ := h.1 q hq; exact ⟨a, h1, (h2.kept hk).moved hvm⟩, fun q hq => by obtain ⟨a, h0, h1, h2, h3⟩ := h.2 q hq; exact ⟨a, h0, h1, h2, (h3.kept hk).moved hvm⟩⟩
theorem zx_blind {D : va_G} {cl : List vw_C} {A : Nat → Prop} {ex : List Nat} {sts : List (String × String × String × Nat)} {Y : zx_Y} {nw : List Jvm.Cond} {aos : List String} {tys : List (ClassId × FieldType)} {ws : va_W} {sz : Nat} {av : List Value} (hk : nw.all zx_nk = true) : FrameBlind (zx_Pc D cl A ex sts Y nw aos tys ws sz av) := by
  intro a U g mk h
  obtain ⟨h0, h1, h2, h3, h4, h5, h6, h7⟩ := h
  have hvm : U.vm.Alike (U.calling g mk a).vm := Vm.Alike.refl U.vm
  exact ⟨h0, h1, h2, va_K.moved hvm h3, h4, zx_CX_move (s := U) (U := U.calling g mk a) hvm (fun _ _ _ => rfl) h5, zx_nw_same hk (rfl : U.vm = (U.calling g mk a).vm) h6, fun C hC => va_AO.moved hvm (h7 C hC)⟩
theorem zx_cats_ok {b : Nat} {ex : List Nat} {ρ : List Int} {ad : List Nat} : ∀ {sk : List zx_V} {kc : List Value}, zx_F2 (zx_R b ex ρ ad) sk kc → (kc.map fun v => v.category).sum = zx_cats sk
  | [], [], _ => rfl
  | v :: r, x :: m, h => by
    show x.category + (m.map fun v => v.category).sum = zx_cat v + zx_cats r
    rw [zx_cats_ok h.2, zx_R_cat h.1]
  | [], _ :: _, h => h.elim
  | _ :: _, [], h => h.elim
theorem zx_objs_ok {h : List zx_C} {ci : Nat} : ∀ {ids : List Nat} {i : Nat}, zx_objs h ci ids = true → i ∈ ids → ¬ i < 64 ∧ ∃ ss, h[i - 64]? = some (.inl (ci, ss))
  | [], _, _, hi => nomatch hi
  | id :: r, i, ho, hi => by
    rw [zx_objs] at ho
    split at ho
    · cases ho
    · rename_i h1
      split at ho
      · rename_i o h2
        split at ho
        · rename_i h3
          rcases List.mem_cons.mp hi with e | e
          · subst e
            exact ⟨h1, o.2, by rw [h2, ← h3]⟩
          · exact zx_objs_ok ho e
        · cases ho
      · cases ho
theorem zx_back_mem {rest : List zx_V} {k : Nat × Nat} {o : zx_Ou} : ∀ {os : List zx_Ou}, o ∈ os → (o.1, o.2.1, o.2.2.toList ++ rest, k) ∈ zx_back rest k os
  | [], h => nomatch h
  | o1 :: r, h => by
    rw [zx_back]
    rcases List.mem_cons.mp h with e | e
    · subst e; exact List.mem_cons_self
    · exact List.mem_cons_of_mem _ (zx_back_mem e)
theorem zx_recvr0 {ci : Nat} {h : List zx_C} {as : List zx_V} (hh : zx_recvr 0 ci h as = true) : ∃ ids r, as = .inr (.inl (ids, false)) :: r ∧ zx_objs h ci ids = true := by
  have h1 : zx_rc0 h ci as = true := hh
  unfold zx_rc0 at h1
  split at h1
  · exact ⟨_, _, rfl, h1⟩
  · cases h1
theorem zx_rc1_ok {as : List zx_V} (h1 : zx_rc1 as = true) : ∃ ids r, as = .inr (.inl (ids, false)) :: r := by
  unfold zx_rc1 at h1
  split at h1
  · exact ⟨_, _, rfl⟩
  · cases h1
theorem zx_recvr2 {ci : Nat} {h : List zx_C} {as : List zx_V} (hh : zx_recvr 2 ci h as = true) : ∃ ids r, as = .inr (.inl (ids, false)) :: r := zx_rc1_ok hh
theorem zx_recvr4 {ci : Nat} {h : List zx_C} {as : List zx_V} (hh : zx_recvr 4 ci h as = true) : ∃ ids r, as = .inr (.inl (ids, false)) :: r := zx_rc1_ok hh
section ZXC
variable {p : Program} {l : Launch} {e : Env} {R : Room} {s : State} {m : MethodId} {args : Array Value} {below : List Frame} {meth : Method} {c : Code} {Q : State → Prop}
variable {D : va_G} {cl : List vw_C} {A : Nat → Prop} {b : Nat} {ex ad0 : List Nat} {nL : Nat} {ρ : List Int} {G : zx_G} {h : List zx_C} {lv : List (Nat × zx_V)} {k : Nat × Nat} {sk : List zx_V} {H : Heap} {locs : List Loc} {ls : Array Slot} {kc : List Value} {tys : List (ClassId × FieldType)} {ws : va_W} {lc : List (Nat × Value)}
variable {cc : ByteArray} {pc : Nat} {M : zx_M} {own : String} {Ts nw : List Jvm.Cond} {sts : List (String × String × String × Nat)} {Y : zx_Y} {aos : List String} {dt : List (List Nat)} {PR : zx_PR} {rmt : List (Nat × Nat)} {f : zx_Fn} {d : Nat} {cf : Nat → Option (Nat × Nat × Nat × Nat)}
/-- behind a call that came back -/
theorem zx_run_W {rm : Nat × Nat} {os : List zx_Ou} {a : Array Value} {st0 rest : List Value} {rk : List zx_V} (hA : ∀ q, s.heap.size ≤ q → A q) (B : zx_B D cl A b ex ad0 nL s ρ h lv rk H locs ls rest tys ws lc) (hr : va_Run p l e R s m args below meth c H locs k.1 k.2 rm.1 rm.2 (F0 m pc ls st0) rest (zx_Qc D cl A b ex ρ ws os a) A)
    (K : ∀ q ∈ zx_back rk (k.1 + rm.1, k.2 + rm.2) os, ∀ (r2 : List Int) (H' : Heap) (locs' : List Loc) (kc' : List Value), zx_J D cl A b ex ad0 nL s (ρ ++ r2) q.1 q.2.1 lv q.2.2.1 H' locs' ls kc' → W p l e R s m args below meth c H' locs' q.2.2.2.1 q.2.2.2.2 Q (F0 m (pc + 3) ls kc')) : W p l e R s m args below meth c H locs k.1 k.2 Q (F0 m pc ls st0) := by
  intro T hT X
  obtain ⟨v, st₀, t, T', L, h0, X', hL, e1, e2, ⟨⟨o, ho, v', r2, tys', ws', hv, q1, q2, q3, q4, ⟨xt, q5⟩, q6, q7⟩, hz, hk⟩, st⟩ := hr T hT X
  cases hv
  rw [h0] at hz hk
  obtain ⟨b1, b2, b3, ⟨b4, ⟨xt0, b40⟩⟩, b5, b6, b7, b8⟩ := B
  have hS : va_S A s.heap T'.heap (locs ++ L) := ⟨Nat.le_trans b4.1 (by rw [e1]; exact hz), fun q h1 h2 => by rw [e1, hk q (Nat.lt_of_lt_of_le h1 b4.1) h2]; exact b4.2.1 q h1 h2, fun q hq => by
      rcases List.mem_append.mp hq with h | h
      · exact b4.2.2 q h
      · exact hL q h⟩
  have hvm : t.vm.Alike s.vm := by rw [← e2]; exact X'.warmed.alike.symm
  have hup : ∀ (x : zx_V) (y : Value), zx_R b ex ρ (zx_as ws) x y → zx_R b ex (ρ ++ r2) (zx_as ws') x y := fun x y hxy => by rw [q5]; exact zx_R_app hxy
  have J : zx_J D cl A b ex ad0 nL s (ρ ++ r2) o.1 o.2.1 lv (o.2.2.toList ++ rk) T'.heap (locs ++ L) ls (v.toList ++ rest) := by
    refine ⟨q1, tys', ws', lc, va_K.moved hvm q2, by rw [e1]; exact q3, q4, ⟨hS, xt0 ++ xt, by rw [q5, b40, List.append_assoc]⟩, q6, zx_F2_imp (fun _ _ q => ⟨q.1, hup _ _ q.2⟩) b6, b7, ?_⟩
    refine zx_F2_app (zx_F2_imp hup b8) ?_
    revert q7
    rcases o.2.2 with _ | av <;> rcases v with _ | xv
    · exact fun _ => trivial
    · exact fun q7 => q7.elim
    · exact fun q7 => q7.elim
    · exact fun q7 => ⟨q7, trivial⟩
  obtain ⟨t2, a1, c1⟩ := K _ (zx_back_mem ho) r2 T'.heap (locs ++ L) (v.toList ++ rest) J T' rfl X'
  exact ⟨t2, st t2 a1, c1⟩
theorem zx_call_ok {i : Instr} {ix : Nat × Nat} {z : List (zx_G × (List zx_C × (List zx_V × (Nat × Nat))))} (F : zx_FX p s m args meth c R cc own Ts nw cl A ex nL sts Y aos dt M) (hf : zx_FOK l cl Ts nw sts Y aos PR rmt d f) (hLK : zx_LK own cl Ts nw PR cf) (hgw : Ts.all goodWord = true) (hnk : nw.all zx_nk = true) (hroom : d + 1 ≤ R.frames ∧ 100 * (d + 1) ≤ R.locals) (hml : c.maxLocals = nL) (hinv : zx_inv i = some ix) (hd : decode cc pc = .ok (i, 3)) (hG : zx_ok ρ G) (B : zx_B D cl A b ex ad0 nL s ρ h lv sk H locs ls kc tys ws lc) (hz : zx_call M cf rmt f ix G h k sk = some z)
    (K : ∀ q ∈ z, ∀ (r2 : List Int) (H' : Heap) (locs' : List Loc) (kc' : List Value), zx_J D cl A b ex ad0 nL s (ρ ++ r2) q.1 q.2.1 lv q.2.2.1 H' locs' ls kc' → W p l e R s m args below meth c H' locs' q.2.2.2.1 q.2.2.2.2 Q (F0 m (pc + 3) ls kc')) : W p l e R s m args below meth c H locs k.1 k.2 Q (F0 m pc ls kc) := by
  obtain ⟨hx, hb, hown, hts, hnw, hA, hR, hin, hnL, hCX, hao, hCK, hMK⟩ := F
  have hsz : ls.size = nL := B.2.2.2.2.2.2.1.1
  unfold zx_call at hz
  split at hz
  · rename_i q hq
    obtain ⟨L5, L0⟩ := hLK ix.1 q hq
    split at hz
    · rename_i h5
      obtain ⟨m1, m2, m3⟩ := L5 h5.1
      have hi : i = .invokespecial ix.1 := by
        cases i <;> first | (cases hinv; rfl) | (cases hinv; exact nomatch h5.2) | cases hinv
      subst hi
      split at hz
      · rename_i ids r
        obtain ⟨x, kr, rfl, hv, B1⟩ := zx_top1 B
        split at hz
        · rename_i hc
          rcases hv with ⟨h4, -⟩ | ⟨i0, a, h4, h5, rfl⟩
          · cases h4
          · have hcat := zx_cats_ok B1.2.2.2.2.2.2.2
            refine W.objInit hx hb hown (hts _ m1) (hts _ m2) (hts _ m3) rfl (by rw [hml]; exact hsz) rfl hd (by omega) ?_ ?_
            · show 2 * 0 + (kr.map fun v => v.category).sum + 12 ≤ R.locals
              rw [hcat]; omega
            · have hz2 := zx_one hz
              exact K _ hz2 [] H locs kr (zx_J_same hG B1)
        · cases hz
      · cases hz
    · rename_i h5
      split at hz
      · rename_i rm hrm
        split at hz
        · rename_i hc
          obtain ⟨c0, c1, c2, c3, c4⟩ := hc
          split at hz
          · rename_i os hos
            cases hz
            have hne5 : q.1 ≠ 5 := fun g => by rw [g] at c0; cases c0
            obtain ⟨y, yc, maxL, ret, n1, n2, n3, n4, n5, n6, L0⟩ := L0 hne5
            have h8 := B.2.2.2.2.2.2.2
            have hlen := zx_F2_len h8
            obtain ⟨htk, hdr⟩ := zx_F2_take q.2.2.1 h8
            have hav := zx_F2_rev htk
            have hcat := zx_cats_ok hdr
            have hW8 : ((kc.drop q.2.2.1).map fun v => v.category).sum ≤ 8 := by rw [hcat]; exact c2
            have hk2 : k.1 + rm.1 ≤ R.cells ∧ k.2 + rm.2 ≤ R.slots := by
              unfold zx_le2 at c3
              rw [Bool.and_eq_true] at c3
              rw [hR.1, hR.2]
              exact ⟨Nat.le_of_ble_eq_true c3.1, Nat.le_of_ble_eq_true c3.2⟩
            have hM := hf q.2.1 y yc maxL ret rm n1 hrm G h _ os hos D A b ex ρ tys ws H.size (kc.take q.2.2.1).reverse hG B.2.2.2.2.1 hav (fun x hx => hA x (Nat.le_trans B.2.2.2.1.1.1 hx))
            have hrooms : ({ frames := d, cells := rm.1, slots := rm.2, locals := 100 * d } : Room).frames + 1 ≤ R.frames ∧ 8 + (maxL + 11) + ({ frames := d, cells := rm.1, slots := rm.2, locals := 100 * d } : Room).locals ≤ R.locals := ⟨hroom.1, by show 8 + (maxL + 11) + 100 * d ≤ R.locals; omega⟩
            have hgT : GoodIn Ts (Jvm.Cond.code y yc maxL ret :: Ts) := by
              intro w hw
              have hw2 : w ∈ Ts := (List.mem_cons.mp hw).elim (fun g => by rw [g]; exact n3) id
              exact ⟨hw2, good_of_word (List.all_eq_true.mp hgw w hw2)⟩
            have hgo : ∀ w ∈ Ts, w ∈ Ts ∧ ((w.onTables && w.keeps) = true ∨ ∃ ty, w = .arrayClass ty) := fun w hw => ⟨hw, good_of_word (List.all_eq_true.mp hgw w hw)⟩
            have hcall : CallFix p m c cc nL s args Ts own := ⟨hx, hb, hml, hown, hts⟩
            have hstk : kc = kc.take q.2.2.1 ++ kc.drop q.2.2.1 := (List.take_append_drop _ _).symm
            have hpre : ∀ U : State, U.heap = H → s.WarmedH U.vm → zx_Pc D cl A ex sts Y nw aos tys ws H.size (kc.take q.2.2.1).reverse (kc.take q.2.2.1).reverse.toArray U := fun U hU hW =>
              ⟨rfl, by rw [hU], by rw [hU]; exact B.2.1, va_K.moved hW.alike B.1, B.2.2.1, by rw [hU]; exact zx_CX_move hW.alike (fun a h1 h2 => B.2.2.2.1.1.2.1 a h1 h2) hCX, zx_nw_warm hnk hW hnw, fun C hC => va_AO.moved hW.alike (hao C hC)⟩
            have hbl : FrameBlind (zx_Pc D cl A ex sts Y nw aos tys ws H.size (kc.take q.2.2.1).reverse) := zx_blind hnk
            have hsub : zx_B D cl A b ex ad0 nL s ρ h lv (sk.drop q.2.2.1) H locs ls (kc.drop q.2.2.1) tys ws lc := zx_B_sk B hdr
            have hkl : (kc.take q.2.2.1).length = q.2.2.1 := by rw [← zx_F2_len htk]; exact c1
            -- the receiver, where there is one
            have hrec : ∀ (v : zx_V) (as : List zx_V), (sk.take q.2.2.1).reverse = v :: as → ∃ (x : Value) (As : List Value), (kc.take q.2.2.1).reverse = x :: As ∧ zx_R b ex ρ (zx_as ws) v x ∧ kc = As.reverse ++ x :: kc.drop q.2.2.1 ∧ As.length = q.2.2.1 - 1 := by
              intro v as hs
              rw [hs] at hav
              cases hr : (kc.take q.2.2.1).reverse with
              | nil => rw [hr] at hav; exact hav.elim
              | cons x As =>
                rw [hr] at hav
                have h9 : kc.take q.2.2.1 = As.reverse ++ [x] := by
                  have := congrArg List.reverse hr
                  rw [List.reverse_reverse, List.reverse_cons] at this
                  exact this
                refine ⟨x, As, rfl, hav.1, ?_, ?_⟩
                · have h10 := hstk
                  rw [h9, List.append_assoc] at h10
                  exact h10
                · have h11 := congrArg List.length h9
                  rw [hkl, List.length_append, List.length_reverse, List.length_singleton] at h11
                  omega
            rcases (show q.1 = 0 ∨ q.1 = 1 ∨ q.1 = 2 ∨ q.1 = 3 ∨ q.1 = 4 by
              unfold zx_kok at c0
              split at c0
              · exact Or.inl (by assumption)
              · exact Or.inr (Or.inl (by assumption))
              · exact Or.inr (Or.inr (Or.inr (Or.inl (by assumption))))
              · exact Or.inr (Or.inr (Or.inl (by assumption)))
              · exact Or.inr (Or.inr (Or.inr (Or.inr (by assumption))))
              · cases c0) with g | g | g | g | g
            · obtain ⟨j1, j2, j3, j4, T, N, j5⟩ := L0.1 g
              rw [g] at c0 c4
              have hi : i = .invokevirtual ix.1 := by
                cases i <;> first | (cases hinv; rfl) | (cases hinv; cases c0) | cases hinv
              subst hi
              obtain ⟨ids, as, hs, c4⟩ := zx_recvr0 c4
              obtain ⟨x, As, r1, r2, r3, r4⟩ := hrec _ _ hs
              rcases r2 with ⟨h4, -⟩ | ⟨i0, a, h4, h5, rfl⟩
              · cases h4
              · obtain ⟨o1, ss, o2⟩ := zx_objs_ok c4 h4
                obtain ⟨en, g1, fs, rfl, g2⟩ := zx_cell B o1 h5 o2
                rw [r1] at hM hpre hbl
                have hkk : W p l e R s m args below meth c H locs k.1 k.2 Q (F0 m pc ls (As.reverse ++ .ref a :: kc.drop q.2.2.1)) :=
                  zx_run_W hA hsub (va_runV (As := As) (rest := kc.drop q.2.2.1) hcall hM (cwV (q.2.2.1 - 1) hts (fun w hw => by
                    rcases List.mem_append.mp hw with hw | hw
                    · simp only [List.mem_cons, List.not_mem_nil, or_false] at hw
                      rcases hw with rfl | rfl | rfl | rfl
                      · exact hgo _ j1
                      · exact hgo _ j2
                      · exact hgo _ j3
                      · exact hgo _ n4
                    · exact hgT w hw) rfl rfl rfl ⟨rfl, n5, n6, j4⟩ hrooms) ⟨hbl, va_recv B.1 B.2.1 j5 g1, hpre⟩ rfl r4 hsz rfl (lv_room hW8) hd hk2) K
                rw [r3]
                exact hkk
            · obtain ⟨j1, j2, j3⟩ := L0.2.1 g
              rw [g] at c0
              have hi : i = .invokestatic ix.1 := by
                cases i <;> first | (cases hinv; rfl) | (cases hinv; cases c0) | cases hinv
              subst hi
              have hkk : W p l e R s m args below meth c H locs k.1 k.2 Q (F0 m pc ls ((kc.take q.2.2.1).reverse.reverse ++ kc.drop q.2.2.1)) :=
                zx_run_W hA hsub (va_runS (As := (kc.take q.2.2.1).reverse) (rest := kc.drop q.2.2.1) hcall hM (va_cwS q.2.2.1 hts (fun w hw => by
                  rcases List.mem_append.mp hw with hw | hw
                  · simp only [List.mem_cons, List.not_mem_nil, or_false] at hw
                    rcases hw with rfl | rfl | rfl
                    · exact hgo _ j1
                    · exact hgo _ j2
                    · exact hgo _ n4
                  · exact hgT w hw) rfl rfl rfl ⟨n5, n6, j3⟩ hrooms) ⟨hbl, hpre⟩ rfl (by rw [List.length_reverse]; exact hkl) hsz rfl (lv_room hW8) hd hk2) K
              rw [List.reverse_reverse, ← hstk] at hkk
              exact hkk
            · obtain ⟨j1, j2, j3, j4, j5⟩ := L0.2.2.1 g
              subst j4
              rw [g] at c0 c4
              have hi : i = .invokespecial ix.1 := by
                cases i <;> first | (cases hinv; rfl) | (cases hinv; cases c0) | cases hinv
              subst hi
              obtain ⟨ids, as, hs⟩ := zx_recvr2 c4
              obtain ⟨x, As, r1, r2, r3, r4⟩ := hrec _ _ hs
              rcases r2 with ⟨h4, -⟩ | ⟨i0, a, h4, h5, rfl⟩
              · cases h4
              · rw [r1] at hM hpre hbl
                have hkk : W p l e R s m args below meth c H locs k.1 k.2 Q (F0 m pc ls (As.reverse ++ .ref a :: kc.drop q.2.2.1)) :=
                  zx_run_W hA hsub (va_runI (As := As) (rest := kc.drop q.2.2.1) hcall hM (cwI (q.2.2.1 - 1) hts hgT rfl rfl rfl (hts _ n4) (hts _ j1) (hts _ j2) j3 ⟨n5, n6, j5⟩ hrooms) ⟨hbl, hpre⟩ rfl r4 hsz rfl (lv_room hW8) hd hk2) K
                rw [r3]
                exact hkk
            · obtain ⟨host, j1, j2, j3⟩ := L0.2.2.2.1 g
              rw [g] at c0
              have hi : i = .invokestatic ix.1 := by
                cases i <;> first | (cases hinv; rfl) | (cases hinv; cases c0) | cases hinv
              subst hi
              have hkk : W p l e R s m args below meth c H locs k.1 k.2 Q (F0 m pc ls ((kc.take q.2.2.1).reverse.reverse ++ kc.drop q.2.2.1)) :=
                zx_run_W hA hsub (va_runSN (As := (kc.take q.2.2.1).reverse) (rest := kc.drop q.2.2.1) hcall hM ⟨va_cnB (host := host) q.2.2.1 hts hgT rfl rfl rfl (hnw _ j1) (hts _ n4) ⟨n5, n6, j3⟩ hrooms, hts _ j2, trivial⟩ ⟨hbl, hpre⟩ rfl (by rw [List.length_reverse]; exact hkl) hsz rfl (lv_room hW8) hd hk2) K
              rw [List.reverse_reverse, ← hstk] at hkk
              exact hkk
            · obtain ⟨host, j1, j2, j3, j4, j5⟩ := L0.2.2.2.2 g
              subst j4
              rw [g] at c0 c4
              have hi : i = .invokespecial ix.1 := by
                cases i <;> first | (cases hinv; rfl) | (cases hinv; cases c0) | cases hinv
              subst hi
              obtain ⟨ids, as, hs⟩ := zx_recvr4 c4
              obtain ⟨x, As, r1, r2, r3, r4⟩ := hrec _ _ hs
              rcases r2 with ⟨h4, -⟩ | ⟨i0, a, h4, h5, rfl⟩
              · cases h4
              · rw [r1] at hM hpre hbl
                have hkk : W p l e R s m args below meth c H locs k.1 k.2 Q (F0 m pc ls (As.reverse ++ .ref a :: kc.drop q.2.2.1)) :=
                  zx_run_W hA hsub (va_runIN (As := As) (rest := kc.drop q.2.2.1) hcall hM ⟨va_cnB (host := host) (q.2.2.1 - 1) hts hgT rfl rfl rfl (hnw _ j1) (hts _ n4) ⟨n5, n6, j5⟩ hrooms, j3, hts _ j2⟩ ⟨hbl, hpre⟩ rfl r4 hsz rfl (lv_room hW8) hd hk2) K
                rw [r3]
                exact hkk
          · cases hz
        · cases hz
      · cases hz
  · cases hz
end ZXC
end
section
/-! zx: runs of whole methods are the machine's -/
def zx_end (b : Nat) (ex : List Nat) (ρ : List Int) (ad : List Nat) (rt : Nat) (ir : Instr) (o : zx_Ou) (kc : List Value) : Prop :=
  (ir = .return_ ∧ o.2.2 = none ∧ kc = [] ∧ rt = 4) ∨
  (ir = .ireturn ∧ ∃ (e : zx_L) (w : Int32), o.2.2 = some (.inl e) ∧ kc = [.int w] ∧ zx_ev ρ e = some w.toInt ∧ zx_fit o.1 rt (.inl e) = true) ∨
  (ir = .areturn ∧ ∃ (q : List Nat × Bool) (x : Value), o.2.2 = some (.inr (.inl q)) ∧ kc = [x] ∧ zx_R b ex ρ ad (.inr (.inl q)) x ∧ rt = 3) ∨
  (ir = .lreturn ∧ ∃ w : Int64, o.2.2 = some zx_lg ∧ kc = [.long w] ∧ rt = 2)
def zx_KO (p : Program) (l : Launch) (e : Env) (R : Room) (s : State) (m : MethodId) (args : Array Value) (below : List Frame) (meth : Method) (c : Code) (Q : State → Prop) (D : va_G) (cl : List vw_C) (A : Nat → Prop) (b : Nat) (ex ad0 : List Nat) (nL : Nat) (ρ : List Int) (cc : ByteArray) (rt : Nat) (rm : Nat × Nat) (os : List zx_Os) : Prop :=
  (∀ o : zx_Ou, .inl o ∈ os → ∀ (r2 : List Int) (H' : Heap) (locs' : List Loc) (ls' : Array Slot) (kc' : List Value) (pc' : Nat) (k' : Nat × Nat) (ir : Instr) (tys : List (ClassId × FieldType)) (ws : va_W), zx_ok (ρ ++ r2) o.1 → va_K D cl tys s → va_P D cl ws H' → va_D A ws → va_S A s.heap H' locs' → (∃ xt, zx_as ws = ad0 ++ xt) → zx_F2 (fun c q => zx_RC cl b ex (ρ ++ r2) (zx_as ws) tys c q.2) o.2.1 ws → k'.1 ≤ rm.1 → k'.2 ≤ rm.2 → decode cc pc' = .ok (ir, 1) → zx_end b ex (ρ ++ r2) (zx_as ws) rt ir o kc' →
    W p l e R s m args below meth c H' locs' k'.1 k'.2 Q (F0 m pc' ls' kc')) ∧
  (∀ q : Nat × zx_T, .inr q ∈ os → ∀ (r2 : List Int) (H' : Heap) (locs' : List Loc) (ls' : Array Slot) (kc' : List Value), zx_J D cl A b ex ad0 nL s (ρ ++ r2) q.2.1 q.2.2.1 q.2.2.2.1 q.2.2.2.2.1 H' locs' ls' kc' → W p l e R s m args below meth c H' locs' q.2.2.2.2.2.1 q.2.2.2.2.2.2 Q (F0 m q.1 ls' kc'))
def zx_TB (cc : ByteArray) (tbl : List (Nat × Instr × Nat)) : Prop := ∀ x ∈ tbl, decode cc x.1 = .ok (x.2.1, x.2.2) ∧ (zx_istab x.2.1 = true ∨ x.2.2 = zx_len x.2.1)
theorem zx_ex_nil {Y : zx_Y} {dt : List (List Nat)} {rmt : List (Nat × Nat)} {stp : Nat → Bool} {md : zx_MD} {f : zx_Fn} {n : Nat} {G : zx_G} {h : List zx_C} {lv : List (Nat × zx_V)} {k : Nat × Nat} {sk : List zx_V} : zx_ex Y dt rmt stp md f n [] G h lv k sk = none := by
  cases n
  · rfl
  · rfl
theorem zx_inv_len {i : Instr} {ix : Nat × Nat} (h : zx_inv i = some ix) : zx_istab i = false ∧ zx_len i = 3 := by
  cases i <;> first | exact ⟨rfl, rfl⟩ | cases h
theorem zx_retv_ok {b : Nat} {ex : List Nat} {ρ : List Int} {ad : List Nat} {i : Instr} {rt : Nat} {G : zx_G} {h : List zx_C} {sk : List zx_V} {kc : List Value} {os : List zx_Ou} (hr : zx_isret i = true) (hG : zx_ok ρ G) (hz : zx_retv i rt G h sk = some os) (h8 : zx_F2 (zx_R b ex ρ ad) sk kc) : zx_istab i = false ∧ zx_len i = 1 ∧ ∃ o, o ∈ os ∧ o.1 = G ∧ o.2.1 = h ∧ zx_end b ex ρ ad rt i o kc := by
  cases i <;> first | cases hr | skip
  · have hz : zx_rtA rt G h sk = some os := hz
    unfold zx_rtA at hz
    split at hz
    · rename_i q _
      split at hz
      · rename_i h3
        rcases kc with _ | ⟨x, kr⟩
        · exact h8.elim
        · rcases kr with _ | ⟨y, kr⟩
          · exact ⟨rfl, rfl, _, zx_one hz, rfl, rfl, Or.inr (Or.inr (Or.inl ⟨rfl, q, x, rfl, rfl, h8.1, h3⟩))⟩
          · exact h8.2.elim
      · cases hz
    · cases hz
  · have hz : zx_rtI rt G h sk = some os := hz
    unfold zx_rtI at hz
    split at hz
    · rename_i e1 _
      split at hz
      · rename_i h3
        rcases kc with _ | ⟨x, kr⟩
        · exact h8.elim
        · rcases kr with _ | ⟨y, kr⟩
          · obtain ⟨w, h4, h5⟩ := h8.1
            subst h4
            exact ⟨rfl, rfl, _, zx_one hz, rfl, rfl, Or.inr (Or.inl ⟨rfl, e1, w, rfl, rfl, h5, h3⟩)⟩
          · exact h8.2.elim
      · cases hz
    · cases hz
  · have hz : zx_rtL rt G h sk = some os := hz
    unfold zx_rtL at hz
    split at hz
    · split at hz
      · rename_i h3
        rcases kc with _ | ⟨x, kr⟩
        · exact h8.elim
        · rcases kr with _ | ⟨y, kr⟩
          · obtain ⟨w, h4⟩ := h8.1
            subst h4
            exact ⟨rfl, rfl, _, zx_one hz, rfl, rfl, Or.inr (Or.inr (Or.inr ⟨rfl, w, rfl, rfl, h3⟩))⟩
          · exact h8.2.elim
      · cases hz
    · cases hz
  · have hz : zx_rtV rt G h sk = some os := hz
    unfold zx_rtV at hz
    split at hz
    · split at hz
      · rename_i h3
        rcases kc with _ | ⟨x, kr⟩
        · exact ⟨rfl, rfl, _, zx_one hz, rfl, rfl, Or.inl ⟨rfl, rfl, rfl, h3⟩⟩
        · exact h8.elim
      · cases hz
    · cases hz
section ZXR
variable {p : Program} {l : Launch} {e : Env} {R : Room} {s : State} {m : MethodId} {args : Array Value} {below : List Frame} {meth : Method} {c : Code} {Q : State → Prop}
variable {D : va_G} {cl : List vw_C} {A : Nat → Prop} {b : Nat} {ex ad0 : List Nat} {nL : Nat}
variable {cc : ByteArray} {own : String} {Ts nw : List Jvm.Cond} {sts : List (String × String × String × Nat)} {Y : zx_Y} {aos : List String} {dt : List (List Nat)} {xs : Nat → Int32} {PR : zx_PR} {rmt : List (Nat × Nat)} {f : zx_Fn} {d : Nat} {md : zx_MD} {stp : Nat → Bool}
theorem zx_KO_mono {ρ r2 : List Int} {rt : Nat} {rm : Nat × Nat} {os os' : List zx_Os} (K : zx_KO p l e R s m args below meth c Q D cl A b ex ad0 nL ρ cc rt rm os) (hs : ∀ q ∈ os', q ∈ os) : zx_KO p l e R s m args below meth c Q D cl A b ex ad0 nL (ρ ++ r2) cc rt rm os' := by
  refine ⟨fun o ho r3 => ?_, fun q hq r3 => ?_⟩
  · rw [List.append_assoc]
    exact K.1 o (hs _ ho) (r2 ++ r3)
  · rw [List.append_assoc]
    exact K.2 q (hs _ hq) (r2 ++ r3)
theorem zx_SX_mono {M : zx_M} {ρ r2 : List Int} (S : zx_SX b xs A s M ρ) : zx_SX b xs A s M (ρ ++ r2) := by
  intro hx
  obtain ⟨L, h1, h2, h3, h4, h5, h6⟩ := S hx
  refine ⟨L, h1, h2, h3, h4, ?_, fun j hj => ?_⟩
  · rw [List.getElem?_append_left (List.getElem?_eq_some_iff.mp h5).1]; exact h5
  · rw [List.getElem?_append_left (List.getElem?_eq_some_iff.mp (h6 j hj)).1]; exact h6 j hj
theorem zx_ex_ok (F : zx_FX p s m args meth c R cc own Ts nw cl A ex nL sts Y aos dt md.2.1) (harr : ∀ ty ∈ [FieldType.int, FieldType.byte, FieldType.boolean, FieldType.long], Jvm.Cond.arrayClass ty ∈ Ts) (hf : zx_FOK l cl Ts nw sts Y aos PR rmt d f) (hLK : zx_LK own cl Ts nw PR md.2.2.1) (hgw : Ts.all goodWord = true) (hnk : nw.all zx_nk = true) (hroom : d + 1 ≤ R.frames ∧ 100 * (d + 1) ≤ R.locals) (hml : c.maxLocals = nL) (htbl : zx_TB cc md.1) :
    ∀ (n : Nat) (x : Nat × Instr × Nat) (nx : List (Nat × Instr × Nat)) (ρ : List Int) (G : zx_G) (h : List zx_C) (lv : List (Nat × zx_V)) (k : Nat × Nat) (sk : List zx_V) (os : List zx_Os) (H : Heap) (locs : List Loc) (ls : Array Slot) (kc : List Value), zx_SX b xs A s md.2.1 ρ → (∀ y ∈ x :: nx, y ∈ md.1) → zx_J D cl A b ex ad0 nL s ρ G h lv sk H locs ls kc → zx_ex Y dt rmt stp md f n (x :: nx) G h lv k sk = some os → zx_KO p l e R s m args below meth c Q D cl A b ex ad0 nL ρ cc md.2.2.2 (zx_mR md.2.1) os → W p l e R s m args below meth c H locs k.1 k.2 Q (F0 m x.1 ls kc) := by
  intro n
  induction n with
  | zero => intro x nx ρ G h lv k sk os H locs ls kc _ _ _ hz; cases hz
  | succ n ih =>
    intro x nx ρ G h lv k sk os H locs ls kc hS hsub J hz K
    rw [zx_ex_s] at hz
    unfold zx_ex1 at hz
    obtain ⟨hG, tys, ws, lc, B⟩ := J
    obtain ⟨hd, hlen⟩ := htbl x (hsub x List.mem_cons_self)
    have hnx : ∀ y ∈ nx, y ∈ md.1 := fun y hy => hsub y (List.mem_cons_of_mem _ hy)
    -- the way on
    have go : ∀ (q : Nat × zx_T) (os' : List zx_Os) (r2 : List Int) (H' : Heap) (locs' : List Loc) (ls' : Array Slot) (kc' : List Value), zx_on stp md.1 nx (zx_ex Y dt rmt stp md f n) q = some os' → (∀ q ∈ os', q ∈ os) → zx_J D cl A b ex ad0 nL s (ρ ++ r2) q.2.1 q.2.2.1 q.2.2.2.1 q.2.2.2.2.1 H' locs' ls' kc' → W p l e R s m args below meth c H' locs' q.2.2.2.2.2.1 q.2.2.2.2.2.2 Q (F0 m q.1 ls' kc') := by
      intro q os' r2 H' locs' ls' kc' he hso J'
      unfold zx_on at he
      split at he
      · exact K.2 q (hso _ (zx_one he)) r2 H' locs' ls' kc' J'
      · obtain ⟨g1, g2⟩ := zx_sk_ok (t := q.1) hnx
        cases hc : zx_sk md.1 nx q.1 with
        | nil => rw [hc, zx_ex_nil] at he; cases he
        | cons y r =>
          rw [hc] at he g1
          have hy := g2 y r hc
          rw [← hy]
          exact ih y r (ρ ++ r2) _ _ _ _ _ os' H' locs' ls' kc' (zx_SX_mono hS) g1 J' he (zx_KO_mono K hso)
    split at hz
    · rename_i ix hix
      split at hz
      · rename_i lst hl
        have hd3 : decode cc x.1 = .ok (x.2.1, 3) := by
          rw [hd]
          have h3 : x.2.2 = 3 := by rw [hlen.resolve_left (fun q => by rw [(zx_inv_len hix).1] at q; cases q)]; exact (zx_inv_len hix).2
          rw [h3]
        exact zx_call_ok F hf hLK hgw hnk hroom hml hix hd3 hG B hl (fun q hq r2 H' locs' kc' J' => by
          obtain ⟨os', h1, h2⟩ := zx_all_ok hz hq
          exact go (x.1 + 3, q.1, q.2.1, lv, q.2.2.1, q.2.2.2) os' r2 H' locs' ls kc' h1 h2 J')
      · cases hz
    · rename_i hix
      split at hz
      · rename_i hret
        split at hz
        · rename_i hk
          split at hz
          · rename_i lo hlo
            cases hz
            unfold zx_le2 at hk
            rw [Bool.and_eq_true] at hk
            have hk1 := Nat.le_of_ble_eq_true hk.1
            have hk2 := Nat.le_of_ble_eq_true hk.2
            obtain ⟨b1, b2, b3, ⟨b4, b40⟩, b5, b6, b7, b8⟩ := id B
            have hG0 : zx_ok (ρ ++ []) G := by rw [List.append_nil]; exact hG
            have b50 : zx_F2 (fun c q => zx_RC cl b ex (ρ ++ []) (zx_as ws) tys c q.2) h ws := by rw [List.append_nil]; exact b5
            obtain ⟨r0, r1, o, r2, r3, r4, r5⟩ := zx_retv_ok (b := b) (ex := ex) (ρ := ρ ++ []) (ad := zx_as ws) hret hG0 hlo (by rw [List.append_nil]; exact b8)
            have hd1 : decode cc x.1 = .ok (x.2.1, 1) := by rw [hd, hlen.resolve_left (fun q => by rw [r0] at q; cases q), r1]
            exact K.1 o (zx_lefts_mem r2) [] H locs ls kc x.1 k x.2.1 tys ws (by rw [r3]; exact hG0) b1 b2 b3 b4 b40 (by rw [r4]; exact b50) hk1 hk2 hd1 r5
          · cases hz
        · cases hz
      · split at hz
        · rename_i z hzs
          exact zx_step_ok F hS harr hd hlen hG B hzs (fun q hq r2 H' locs' ls' kc' J' => by
            obtain ⟨os', h1, h2⟩ := zx_all_ok hz hq
            exact go q os' r2 H' locs' ls' kc' h1 h2 J')
        · cases hz
end ZXR
/-! the contract of a run -/
def zx_rtok (ret : Option FieldType) (rt : Nat) : Prop := match ret with
  | none => rt = 4
  | some ty => zx_tag ty = rt ∧ rt ≠ 4 ∧ rt ≠ 9
/-- the tables of a method hold, and go with it -/
def zx_PK (cl : List vw_C) (Ts nw : List Jvm.Cond) (sts : List (String × String × String × Nat)) (aos : List String) (PR : zx_PR) (rmt : List (Nat × Nat)) (P : List (Option zx_MD)) : Prop :=
  ∀ (j : Nat) (md : zx_MD) (y : MethodName) (cc : ByteArray) (maxL : Nat) (ret : Option FieldType) (rm : Nat × Nat), P[j]? = some (some md) → PR[j]? = some (y, cc, maxL, ret) → rmt[j]? = some rm →
    plainName y.cls = true ∧ zx_mR md.2.1 = rm ∧ zx_mV md.2.1 = maxL ∧ zx_mX md.2.1 = false ∧ (zx_mB md.2.1 = true → y.name = "<init>") ∧ zx_MK y.cls cl Ts nw sts aos md.2.1 ∧ zx_LK y.cls cl Ts nw PR md.2.2.1 ∧ zx_TB cc md.1 ∧ zx_rtok ret md.2.2.2 ∧ (∃ x nx, md.1 = x :: nx ∧ x.1 = 0)
theorem zx_words {b : Nat} {ex : List Nat} {ρ : List Int} {ad : List Nat} : ∀ {as : List zx_V} {av : List Value}, zx_F2 (zx_R b ex ρ ad) as av → (lg_sl av).length = zx_cats as
  | [], [], _ => rfl
  | v :: r, x :: m, h => by
    show (lg_sl (x :: m)).length = zx_cat v + zx_cats r
    have h1 : lg_sl (x :: m) = (if x.category = 2 then [Slot.val x, Slot.second] else [Slot.val x]) ++ lg_sl m := by
      unfold lg_sl; rw [List.flatMap_cons]
    rw [h1, List.length_append, zx_words h.2, ← zx_R_cat h.1]
    rcases lv_cat x with g | g <;> simp [g]
  | [], _ :: _, h => h.elim
  | _ :: _, [], h => h.elim
theorem zx_fit4 {G : zx_G} {e : zx_L} (h : zx_fit G 4 (.inl e) = true) : False := by
  unfold zx_fit at h
  cases hq : zx_rng G e with
  | none => simp [hq] at h
  | some q => simp [hq] at h
theorem zx_run_ok {l : Launch} {cl : List vw_C} {Ts nw : List Jvm.Cond} {sts : List (String × String × String × Nat)} {Y : zx_Y} {aos : List String} {dt : List (List Nat)} {PR : zx_PR} {rmt : List (Nat × Nat)} {P : List (Option zx_MD)} {xf : zx_Fn} {fuel : Nat} (hPK : zx_PK cl Ts nw sts aos PR rmt P) (hCK : zx_CK cl Ts dt) (harr : ∀ ty ∈ [FieldType.int, FieldType.byte, FieldType.boolean, FieldType.long], Jvm.Cond.arrayClass ty ∈ Ts) (hgw : Ts.all goodWord = true) (hnk : nw.all zx_nk = true)
    (hxf : ∀ (d j : Nat), P[j]? = some none → zx_FJ l cl Ts nw sts Y aos PR rmt (d + 1) xf j) : ∀ d : Nat, zx_FOK l cl Ts nw sts Y aos PR rmt d (zx_run Y dt rmt P xf fuel d) := by
  intro d
  induction d with
  | zero =>
    intro j y cc maxL ret rm _ _ G h as os hz
    cases hz
  | succ d ih =>
    intro j y cc maxL ret rm hPR hrm G h as os hz D A b ex ρ tys ws sz av hG hh ha hA
    rw [zx_run_s] at hz
    unfold zx_run1 at hz
    split at hz
    · rename_i md hP
      split at hz
      · rename_i hcats
        split at hz
        case h_2 => cases hz
        rename_i lo hlo
        obtain ⟨k1, k2, k3, k4, k5, k6, k7, k8, k9, x, nx, k10, k11⟩ := hPK j md y cc maxL ret rm hP hPR hrm
        refine Met.ofW (cc := cc) (maxL := maxL) (ret := ret) k1 rfl ?_
        intro p e s m args below meth c s₁ B hml hv
        obtain ⟨rfl, hsz, hP, hK, hD, hCX, hnw, hao⟩ := hv
        have hx := B.exec
        have hb := B.bytes
        have hr := B.returns
        have hts0 := atoms_spec (ws := Jvm.Cond.code y cc maxL ret :: Ts) B.pre
        have hts : ∀ w ∈ Ts, w.before av.toArray s = true := fun w hw => hts0 w (List.mem_cons_of_mem _ hw)
        have hown : s.vm.findClass y.cls = some m.cls := findClass_of_methodNamed B.named
        have hlocks := B.notSynchronized
        have hin : meth.name = y.name := (name_of_methodNamed B.named B.method).1
        have hA' : ∀ q, s.heap.size ≤ q → A q := fun q hq => hA q (by rw [← hsz]; exact hq)
        have F : zx_FX p s m av.toArray meth c ({ frames := d + 1, cells := rm.1, slots := rm.2, locals := 100 * (d + 1) } : Room) cc y.cls Ts nw cl A ex maxL sts Y aos dt md.2.1 :=
          ⟨hx, hb, hown, hts, hnw, hA', ⟨by rw [k2], by rw [k2]⟩, fun q => by rw [hin]; exact k5 q, k3, hCX, hao, hCK, k6⟩
        have hl := lv_entry av (n := maxL) (by rw [zx_words ha, ← k3]; exact hcats)
        rw [lg_entry_eq]
        generalize (lg_sl av ++ List.replicate (maxL - (lg_sl av).length) Slot.unset).toArray = ls at hl ⊢
        have J : zx_J D cl A b ex (zx_as ws) maxL s ρ G h (zx_args 0 as) [] s.heap [] ls [] :=
          ⟨hG, tys, ws, lv_args 0 av, hK, hP, hD, ⟨va_S.rf, [], by rw [List.append_nil]⟩, hh, zx_args_ok 0 ha, hl, trivial⟩
        rw [k10] at hlo
        have gol : W p l e ({ frames := d + 1, cells := rm.1, slots := rm.2, locals := 100 * (d + 1) } : Room) s m av.toArray below meth c s.heap [] 0 0 (MQ below (zx_Qc D cl A b ex ρ ws os) av.toArray s rm.1 rm.2 A) (F0 m x.1 ls []) → W p l e (headSpec (Jvm.Cond.code y cc maxL ret :: Ts) ({ frames := d + 1, cells := rm.1, slots := rm.2, locals := 100 * (d + 1) } : Room)).room s m av.toArray below meth c s.heap [] 0 0 (MQ below (zx_Qc D cl A b ex ρ ws os) av.toArray s rm.1 rm.2 A) (F0 m 0 ls []) := by
          intro g; rw [k11] at g; exact g
        refine gol ?_
        refine zx_ex_ok (xs := fun _ => 0) F harr ih k7 hgw hnk ⟨Nat.le_refl _, Nat.le_refl _⟩ hml k8 fuel x nx ρ G h (zx_args 0 as) (0, 0) [] lo s.heap [] ls [] (fun q => by rw [k4] at q; cases q) (fun y hy => by rw [k10]; exact hy) J hlo ⟨?_, fun q hq => by obtain ⟨o, h1, h2⟩ := zx_inls_mem hz _ hq; cases h2⟩
        intro o ho0 r2 H' locs' ls' kc' pc' k' ir tys' ws' g1 g2 g3 g4 g5 g6 g7 g8 g9 g10 g11
        rw [k2] at g8 g9
        have ho : o ∈ os := by obtain ⟨o', h1, h2⟩ := zx_inls_mem hz _ ho0; cases h2; exact h1
        refine W.widen (k := rm.1) (n := rm.2) g8 g9 ?_
        have fin : ∀ (v : Option Value), zx_rv b ex (ρ ++ r2) (zx_as ws') o.2.2 v → ∀ t : State, t.heap = H' → s.WarmedH t.vm → zx_Qc D cl A b ex ρ ws os av.toArray s (.returned v) t := by
          intro v hv t ht hW
          exact ⟨⟨o, ho, v, r2, tys', ws', rfl, g1, va_K.moved hW.alike g2, by rw [ht]; exact g3, g4, g6, g7, hv⟩, g5.F ht⟩
        rcases g11 with ⟨rfl, e1, rfl, e2⟩ | ⟨rfl, e1, w, e2, rfl, e3, e4⟩ | ⟨rfl, q, x1, e2, rfl, e3, e4⟩ | ⟨rfl, w, e2, rfl, e4⟩
        · have hrn : ret = none := by
            cases ret with
            | none => rfl
            | some ty => exact absurd e2 k9.2.1
          subst hrn
          exact W.vret hx hb hr (fin none (by rw [e1]; exact trivial)) g5.2.2 g10
        · cases ret with
          | none =>
            have k9 : md.2.2.2 = 4 := k9
            rw [k9] at e4
            exact (zx_fit4 e4).elim
          | some ty =>
            have hx1 : zx_R b ex (ρ ++ r2) (zx_as ws') (.inl e1) (.int w) := ⟨w, rfl, e3⟩
            have hn := (zx_fit_ok (ty := ty) g1 (by rw [k9.1]; exact e4) hx1).1
            exact W.zret hx hb hr hn (fin (some (.int w)) (by rw [e2]; exact hx1)) g5.2.2 g10
        · cases ret with
          | none =>
            have k9 : md.2.2.2 = 4 := k9
            rw [k9] at e4; cases e4
          | some ty =>
            have hty : (∃ n, ty = .object n) ∨ ∃ t, ty = .array t := by
              have h9 := k9.1
              rw [e4] at h9
              cases ty <;> first | exact Or.inl ⟨_, rfl⟩ | exact Or.inr ⟨_, rfl⟩ | cases h9
            have hvx : x1 = .null ∨ ∃ a, x1 = .ref a := by
              rcases e3 with ⟨-, h1⟩ | ⟨i, a, -, -, h1⟩
              · exact Or.inl h1
              · exact Or.inr ⟨a, h1⟩
            exact W.aret hx hb hr hty hvx (fin (some x1) (by rw [e2]; exact e3)) g5.2.2 g10
        · cases ret with
          | none =>
            have k9 : md.2.2.2 = 4 := k9
            rw [k9] at e4; cases e4
          | some ty =>
            have hty : ty = .long := by
              have h9 := k9.1
              rw [e4] at h9
              cases ty <;> first | rfl | cases h9
            subst hty
            exact W.lret hx hb hr (fin (some (.long w)) (by rw [e2]; exact ⟨w, rfl⟩)) g5.2.2 g10
      · cases hz
    · rename_i hP
      exact hxf d j hP y cc maxL ret rm hPR hrm G h as os hz D A b ex ρ tys ws sz av hG hh ha hA
    · cases hz
end
section
-- ===== PART A: goes FIRST, ahead of the names: the tables' words, and 'selects' of the private methods out of them =====
/-- a private method of a class that the tables say can be made, by its rows of tables_1 -/
def lw_okq (q : MethodName × Nat) : Prop := (q.1.cls ≠ "java/lang/invoke/MethodHandle" ∧ q.1.cls ≠ "java/lang/invoke/VarHandle") ∧ Cond.instantiable q.1.cls q.2 ∈ tables_1 ∧ Cond.privateMethod q.1 ∈ tables_1 ∧ Cond.instanceMethod q.1 ∈ tables_1
theorem lw_p0 : lw_okq (⟨"OperaHouse", "putBytes", "(I)V"⟩, 14) := ⟨⟨by decide +kernel, by decide +kernel⟩, List.mem_of_getElem? (i := 27) (by decide +kernel), List.mem_of_getElem? (i := 532) (by decide +kernel), List.mem_of_getElem? (i := 533) (by decide +kernel)⟩
theorem lw_p1 : lw_okq (⟨"OperaHouse", "emptiedTape", "()I"⟩, 14) := ⟨⟨by decide +kernel, by decide +kernel⟩, List.mem_of_getElem? (i := 27) (by decide +kernel), List.mem_of_getElem? (i := 548) (by decide +kernel), List.mem_of_getElem? (i := 549) (by decide +kernel)⟩
theorem lw_p2 : lw_okq (⟨"OperaHouse$Opera", "readRole", "(I[II)Z"⟩, 10) := ⟨⟨by decide +kernel, by decide +kernel⟩, List.mem_of_getElem? (i := 88) (by decide +kernel), List.mem_of_getElem? (i := 559) (by decide +kernel), List.mem_of_getElem? (i := 560) (by decide +kernel)⟩
theorem lw_p3 : lw_okq (⟨"OperaHouse$Reader", "advance", "()V"⟩, 9) := ⟨⟨by decide +kernel, by decide +kernel⟩, List.mem_of_getElem? (i := 334) (by decide +kernel), List.mem_of_getElem? (i := 589) (by decide +kernel), List.mem_of_getElem? (i := 590) (by decide +kernel)⟩
theorem lw_p4 : lw_okq (⟨"OperaHouse$Reader", "readNumber", "()LOperaHouse$Token;"⟩, 9) := ⟨⟨by decide +kernel, by decide +kernel⟩, List.mem_of_getElem? (i := 334) (by decide +kernel), List.mem_of_getElem? (i := 601) (by decide +kernel), List.mem_of_getElem? (i := 602) (by decide +kernel)⟩
theorem lw_p5 : lw_okq (⟨"OperaHouse$Reader", "limit", "(I)Z"⟩, 9) := ⟨⟨by decide +kernel, by decide +kernel⟩, List.mem_of_getElem? (i := 334) (by decide +kernel), List.mem_of_getElem? (i := 661) (by decide +kernel), List.mem_of_getElem? (i := 662) (by decide +kernel)⟩
theorem lw_p6 : lw_okq (⟨"OperaHouse$Reader", "blame", "(I)Z"⟩, 9) := ⟨⟨by decide +kernel, by decide +kernel⟩, List.mem_of_getElem? (i := 334) (by decide +kernel), List.mem_of_getElem? (i := 665) (by decide +kernel), List.mem_of_getElem? (i := 666) (by decide +kernel)⟩
theorem lw_p7 : lw_okq (⟨"OperaHouse$Reader", "isNumber", "(II)Z"⟩, 9) := ⟨⟨by decide +kernel, by decide +kernel⟩, List.mem_of_getElem? (i := 334) (by decide +kernel), List.mem_of_getElem? (i := 673) (by decide +kernel), List.mem_of_getElem? (i := 674) (by decide +kernel)⟩
theorem lw_p8 : lw_okq (⟨"OperaHouse$Reader", "passes", "(LOperaHouse$Token;)Z"⟩, 9) := ⟨⟨by decide +kernel, by decide +kernel⟩, List.mem_of_getElem? (i := 334) (by decide +kernel), List.mem_of_getElem? (i := 680) (by decide +kernel), List.mem_of_getElem? (i := 681) (by decide +kernel)⟩
theorem lw_p9 : lw_okq (⟨"OperaHouse$Reader", "leave", "()Z"⟩, 9) := ⟨⟨by decide +kernel, by decide +kernel⟩, List.mem_of_getElem? (i := 334) (by decide +kernel), List.mem_of_getElem? (i := 686) (by decide +kernel), List.mem_of_getElem? (i := 687) (by decide +kernel)⟩
theorem lw_p10 : lw_okq (⟨"OperaHouse$Reader", "payment", "()Z"⟩, 9) := ⟨⟨by decide +kernel, by decide +kernel⟩, List.mem_of_getElem? (i := 334) (by decide +kernel), List.mem_of_getElem? (i := 701) (by decide +kernel), List.mem_of_getElem? (i := 702) (by decide +kernel)⟩
theorem lw_p11 : lw_okq (⟨"OperaHouse$Reader", "cond", "(I)Z"⟩, 9) := ⟨⟨by decide +kernel, by decide +kernel⟩, List.mem_of_getElem? (i := 334) (by decide +kernel), List.mem_of_getElem? (i := 707) (by decide +kernel), List.mem_of_getElem? (i := 708) (by decide +kernel)⟩
theorem lw_p12 : lw_okq (⟨"OperaHouse$Reader", "all", "(I)Z"⟩, 9) := ⟨⟨by decide +kernel, by decide +kernel⟩, List.mem_of_getElem? (i := 334) (by decide +kernel), List.mem_of_getElem? (i := 711) (by decide +kernel), List.mem_of_getElem? (i := 712) (by decide +kernel)⟩
theorem lw_p13 : lw_okq (⟨"OperaHouse$Reader", "one", "(I)Z"⟩, 9) := ⟨⟨by decide +kernel, by decide +kernel⟩, List.mem_of_getElem? (i := 334) (by decide +kernel), List.mem_of_getElem? (i := 715) (by decide +kernel), List.mem_of_getElem? (i := 716) (by decide +kernel)⟩
theorem lw_p14 : lw_okq (⟨"OperaHouse$Reader", "measure", "(I)Z"⟩, 9) := ⟨⟨by decide +kernel, by decide +kernel⟩, List.mem_of_getElem? (i := 334) (by decide +kernel), List.mem_of_getElem? (i := 735) (by decide +kernel), List.mem_of_getElem? (i := 736) (by decide +kernel)⟩
theorem lw_p15 : lw_okq (⟨"OperaHouse", "isSpot", "(II)Z"⟩, 14) := ⟨⟨by decide +kernel, by decide +kernel⟩, List.mem_of_getElem? (i := 27) (by decide +kernel), List.mem_of_getElem? (i := 784) (by decide +kernel), List.mem_of_getElem? (i := 785) (by decide +kernel)⟩
def lw_privs_1 : List (MethodName × Nat) := [(⟨"OperaHouse", "putBytes", "(I)V"⟩, 14), (⟨"OperaHouse", "emptiedTape", "()I"⟩, 14), (⟨"OperaHouse$Opera", "readRole", "(I[II)Z"⟩, 10), (⟨"OperaHouse$Reader", "advance", "()V"⟩, 9), (⟨"OperaHouse$Reader", "readNumber", "()LOperaHouse$Token;"⟩, 9), (⟨"OperaHouse$Reader", "limit", "(I)Z"⟩, 9), (⟨"OperaHouse$Reader", "blame", "(I)Z"⟩, 9), (⟨"OperaHouse$Reader", "isNumber", "(II)Z"⟩, 9), (⟨"OperaHouse$Reader", "passes", "(LOperaHouse$Token;)Z"⟩, 9), (⟨"OperaHouse$Reader", "leave", "()Z"⟩, 9), (⟨"OperaHouse$Reader", "payment", "()Z"⟩, 9), (⟨"OperaHouse$Reader", "cond", "(I)Z"⟩, 9), (⟨"OperaHouse$Reader", "all", "(I)Z"⟩, 9), (⟨"OperaHouse$Reader", "one", "(I)Z"⟩, 9), (⟨"OperaHouse$Reader", "measure", "(I)Z"⟩, 9), (⟨"OperaHouse", "isSpot", "(II)Z"⟩, 14)]
theorem lw_r1 : ∀ q ∈ lw_privs_1, lw_okq q := List.forall_mem_cons.mpr ⟨lw_p0, List.forall_mem_cons.mpr ⟨lw_p1, List.forall_mem_cons.mpr ⟨lw_p2, List.forall_mem_cons.mpr ⟨lw_p3, List.forall_mem_cons.mpr ⟨lw_p4, List.forall_mem_cons.mpr ⟨lw_p5, List.forall_mem_cons.mpr ⟨lw_p6, List.forall_mem_cons.mpr ⟨lw_p7, List.forall_mem_cons.mpr ⟨lw_p8, List.forall_mem_cons.mpr ⟨lw_p9, List.forall_mem_cons.mpr ⟨lw_p10, List.forall_mem_cons.mpr ⟨lw_p11, List.forall_mem_cons.mpr ⟨lw_p12, List.forall_mem_cons.mpr ⟨lw_p13, List.forall_mem_cons.mpr ⟨lw_p14, List.forall_mem_cons.mpr ⟨lw_p15, fun _ h => absurd h List.not_mem_nil⟩⟩⟩⟩⟩⟩⟩⟩⟩⟩⟩⟩⟩⟩⟩⟩
theorem lw_p16 : lw_okq (⟨"OperaHouse$Judge", "judgeStage", "(I)V"⟩, 6) := ⟨⟨by decide +kernel, by decide +kernel⟩, List.mem_of_getElem? (i := 409) (by decide +kernel), List.mem_of_getElem? (i := 829) (by decide +kernel), List.mem_of_getElem? (i := 830) (by decide +kernel)⟩
theorem lw_p17 : lw_okq (⟨"OperaHouse$Judge", "judgeReadiness", "(I)V"⟩, 6) := ⟨⟨by decide +kernel, by decide +kernel⟩, List.mem_of_getElem? (i := 409) (by decide +kernel), List.mem_of_getElem? (i := 841) (by decide +kernel), List.mem_of_getElem? (i := 842) (by decide +kernel)⟩
theorem lw_p18 : lw_okq (⟨"OperaHouse$Judge", "firstEnd", "(III)I"⟩, 6) := ⟨⟨by decide +kernel, by decide +kernel⟩, List.mem_of_getElem? (i := 409) (by decide +kernel), List.mem_of_getElem? (i := 845) (by decide +kernel), List.mem_of_getElem? (i := 846) (by decide +kernel)⟩
theorem lw_p19 : lw_okq (⟨"OperaHouse$Judge", "judgePlayers", "(I)V"⟩, 6) := ⟨⟨by decide +kernel, by decide +kernel⟩, List.mem_of_getElem? (i := 409) (by decide +kernel), List.mem_of_getElem? (i := 852) (by decide +kernel), List.mem_of_getElem? (i := 853) (by decide +kernel)⟩
theorem lw_p20 : lw_okq (⟨"OperaHouse$Judge", "judgeChorus", "(I)V"⟩, 6) := ⟨⟨by decide +kernel, by decide +kernel⟩, List.mem_of_getElem? (i := 409) (by decide +kernel), List.mem_of_getElem? (i := 860) (by decide +kernel), List.mem_of_getElem? (i := 861) (by decide +kernel)⟩
theorem lw_p21 : lw_okq (⟨"OperaHouse$Judge", "needsChorus", "(I)Z"⟩, 6) := ⟨⟨by decide +kernel, by decide +kernel⟩, List.mem_of_getElem? (i := 409) (by decide +kernel), List.mem_of_getElem? (i := 864) (by decide +kernel), List.mem_of_getElem? (i := 865) (by decide +kernel)⟩
theorem lw_p22 : lw_okq (⟨"OperaHouse$Judge", "judgeVacant", "(I)V"⟩, 6) := ⟨⟨by decide +kernel, by decide +kernel⟩, List.mem_of_getElem? (i := 409) (by decide +kernel), List.mem_of_getElem? (i := 876) (by decide +kernel), List.mem_of_getElem? (i := 877) (by decide +kernel)⟩
theorem lw_p23 : lw_okq (⟨"OperaHouse$Judge", "judgeSets", "()V"⟩, 6) := ⟨⟨by decide +kernel, by decide +kernel⟩, List.mem_of_getElem? (i := 409) (by decide +kernel), List.mem_of_getElem? (i := 880) (by decide +kernel), List.mem_of_getElem? (i := 881) (by decide +kernel)⟩
theorem lw_p24 : lw_okq (⟨"OperaHouse$Wagons", "reach", "(I)V"⟩, 3) := ⟨⟨by decide +kernel, by decide +kernel⟩, List.mem_of_getElem? (i := 318) (by decide +kernel), List.mem_of_getElem? (i := 888) (by decide +kernel), List.mem_of_getElem? (i := 889) (by decide +kernel)⟩
theorem lw_p25 : lw_okq (⟨"OperaHouse$Wagons", "moveAll", "(I)V"⟩, 3) := ⟨⟨by decide +kernel, by decide +kernel⟩, List.mem_of_getElem? (i := 318) (by decide +kernel), List.mem_of_getElem? (i := 899) (by decide +kernel), List.mem_of_getElem? (i := 900) (by decide +kernel)⟩
theorem lw_p26 : lw_okq (⟨"OperaHouse$Walk", "collectOwn", "(I)V"⟩, 9) := ⟨⟨by decide +kernel, by decide +kernel⟩, List.mem_of_getElem? (i := 373) (by decide +kernel), List.mem_of_getElem? (i := 925) (by decide +kernel), List.mem_of_getElem? (i := 926) (by decide +kernel)⟩
theorem lw_p27 : lw_okq (⟨"OperaHouse$Walk", "load", "(II)I"⟩, 9) := ⟨⟨by decide +kernel, by decide +kernel⟩, List.mem_of_getElem? (i := 373) (by decide +kernel), List.mem_of_getElem? (i := 934) (by decide +kernel), List.mem_of_getElem? (i := 935) (by decide +kernel)⟩
theorem lw_p28 : lw_okq (⟨"OperaHouse$Walk", "bitsOfCall", "(ILOperaHouse$Contract;)I"⟩, 9) := ⟨⟨by decide +kernel, by decide +kernel⟩, List.mem_of_getElem? (i := 373) (by decide +kernel), List.mem_of_getElem? (i := 939) (by decide +kernel), List.mem_of_getElem? (i := 940) (by decide +kernel)⟩
theorem lw_p29 : lw_okq (⟨"OperaHouse$Walk", "bitsOfRole", "(IIII)I"⟩, 9) := ⟨⟨by decide +kernel, by decide +kernel⟩, List.mem_of_getElem? (i := 373) (by decide +kernel), List.mem_of_getElem? (i := 951) (by decide +kernel), List.mem_of_getElem? (i := 952) (by decide +kernel)⟩
theorem lw_p30 : lw_okq (⟨"OperaHouse$Walk", "countUpTo", "(II)V"⟩, 9) := ⟨⟨by decide +kernel, by decide +kernel⟩, List.mem_of_getElem? (i := 373) (by decide +kernel), List.mem_of_getElem? (i := 1004) (by decide +kernel), List.mem_of_getElem? (i := 1005) (by decide +kernel)⟩
theorem lw_p31 : lw_okq (⟨"OperaHouse$Contract", "holds", "(I[I)Z"⟩, 9) := ⟨⟨by decide +kernel, by decide +kernel⟩, List.mem_of_getElem? (i := 41) (by decide +kernel), List.mem_of_getElem? (i := 1012) (by decide +kernel), List.mem_of_getElem? (i := 1013) (by decide +kernel)⟩
def lw_privs_2 : List (MethodName × Nat) := [(⟨"OperaHouse$Judge", "judgeStage", "(I)V"⟩, 6), (⟨"OperaHouse$Judge", "judgeReadiness", "(I)V"⟩, 6), (⟨"OperaHouse$Judge", "firstEnd", "(III)I"⟩, 6), (⟨"OperaHouse$Judge", "judgePlayers", "(I)V"⟩, 6), (⟨"OperaHouse$Judge", "judgeChorus", "(I)V"⟩, 6), (⟨"OperaHouse$Judge", "needsChorus", "(I)Z"⟩, 6), (⟨"OperaHouse$Judge", "judgeVacant", "(I)V"⟩, 6), (⟨"OperaHouse$Judge", "judgeSets", "()V"⟩, 6), (⟨"OperaHouse$Wagons", "reach", "(I)V"⟩, 3), (⟨"OperaHouse$Wagons", "moveAll", "(I)V"⟩, 3), (⟨"OperaHouse$Walk", "collectOwn", "(I)V"⟩, 9), (⟨"OperaHouse$Walk", "load", "(II)I"⟩, 9), (⟨"OperaHouse$Walk", "bitsOfCall", "(ILOperaHouse$Contract;)I"⟩, 9), (⟨"OperaHouse$Walk", "bitsOfRole", "(IIII)I"⟩, 9), (⟨"OperaHouse$Walk", "countUpTo", "(II)V"⟩, 9), (⟨"OperaHouse$Contract", "holds", "(I[I)Z"⟩, 9)]
theorem lw_r2 : ∀ q ∈ lw_privs_2, lw_okq q := List.forall_mem_cons.mpr ⟨lw_p16, List.forall_mem_cons.mpr ⟨lw_p17, List.forall_mem_cons.mpr ⟨lw_p18, List.forall_mem_cons.mpr ⟨lw_p19, List.forall_mem_cons.mpr ⟨lw_p20, List.forall_mem_cons.mpr ⟨lw_p21, List.forall_mem_cons.mpr ⟨lw_p22, List.forall_mem_cons.mpr ⟨lw_p23, List.forall_mem_cons.mpr ⟨lw_p24, List.forall_mem_cons.mpr ⟨lw_p25, List.forall_mem_cons.mpr ⟨lw_p26, List.forall_mem_cons.mpr ⟨lw_p27, List.forall_mem_cons.mpr ⟨lw_p28, List.forall_mem_cons.mpr ⟨lw_p29, List.forall_mem_cons.mpr ⟨lw_p30, List.forall_mem_cons.mpr ⟨lw_p31, fun _ h => absurd h List.not_mem_nil⟩⟩⟩⟩⟩⟩⟩⟩⟩⟩⟩⟩⟩⟩⟩⟩
theorem lw_p32 : lw_okq (⟨"OperaHouse$Layer", "takeBack", "(I)V"⟩, 13) := ⟨⟨by decide +kernel, by decide +kernel⟩, List.mem_of_getElem? (i := 436) (by decide +kernel), List.mem_of_getElem? (i := 1094) (by decide +kernel), List.mem_of_getElem? (i := 1095) (by decide +kernel)⟩
theorem lw_p33 : lw_okq (⟨"OperaHouse$Layer", "placeNight", "(I)V"⟩, 13) := ⟨⟨by decide +kernel, by decide +kernel⟩, List.mem_of_getElem? (i := 436) (by decide +kernel), List.mem_of_getElem? (i := 1103) (by decide +kernel), List.mem_of_getElem? (i := 1104) (by decide +kernel)⟩
theorem lw_p34 : lw_okq (⟨"OperaHouse$Layer", "putNight", "(I)V"⟩, 13) := ⟨⟨by decide +kernel, by decide +kernel⟩, List.mem_of_getElem? (i := 436) (by decide +kernel), List.mem_of_getElem? (i := 1107) (by decide +kernel), List.mem_of_getElem? (i := 1108) (by decide +kernel)⟩
theorem lw_p35 : lw_okq (⟨"OperaHouse$Layer", "sourceSinger", "(II)I"⟩, 13) := ⟨⟨by decide +kernel, by decide +kernel⟩, List.mem_of_getElem? (i := 436) (by decide +kernel), List.mem_of_getElem? (i := 1112) (by decide +kernel), List.mem_of_getElem? (i := 1113) (by decide +kernel)⟩
theorem lw_p36 : lw_okq (⟨"OperaHouse$Layer", "holds", "(I)Z"⟩, 13) := ⟨⟨by decide +kernel, by decide +kernel⟩, List.mem_of_getElem? (i := 436) (by decide +kernel), List.mem_of_getElem? (i := 1116) (by decide +kernel), List.mem_of_getElem? (i := 1117) (by decide +kernel)⟩
theorem lw_p37 : lw_okq (⟨"OperaHouse$Layer", "startBehind", "(I)V"⟩, 13) := ⟨⟨by decide +kernel, by decide +kernel⟩, List.mem_of_getElem? (i := 436) (by decide +kernel), List.mem_of_getElem? (i := 1120) (by decide +kernel), List.mem_of_getElem? (i := 1121) (by decide +kernel)⟩
theorem lw_p38 : lw_okq (⟨"OperaHouse$Layer", "outcome", "(II)I"⟩, 13) := ⟨⟨by decide +kernel, by decide +kernel⟩, List.mem_of_getElem? (i := 436) (by decide +kernel), List.mem_of_getElem? (i := 1124) (by decide +kernel), List.mem_of_getElem? (i := 1125) (by decide +kernel)⟩
theorem lw_p39 : lw_okq (⟨"java/lang/Throwable", "fillInStackTrace", "(I)Ljava/lang/Throwable;"⟩, 6) := ⟨⟨by decide +kernel, by decide +kernel⟩, List.mem_of_getElem? (i := 1193) (by decide +kernel), List.mem_of_getElem? (i := 1191) (by decide +kernel), List.mem_of_getElem? (i := 1192) (by decide +kernel)⟩
theorem lw_p40 : lw_okq (⟨"OperaHouseModel", "four", "(I)V"⟩, 101) := ⟨⟨by decide +kernel, by decide +kernel⟩, List.mem_of_getElem? (i := 1223) (by decide +kernel), List.mem_of_getElem? (i := 1541) (by decide +kernel), List.mem_of_getElem? (i := 1542) (by decide +kernel)⟩
theorem lw_p41 : lw_okq (⟨"OperaHouseModel", "taken", "()V"⟩, 101) := ⟨⟨by decide +kernel, by decide +kernel⟩, List.mem_of_getElem? (i := 1223) (by decide +kernel), List.mem_of_getElem? (i := 1560) (by decide +kernel), List.mem_of_getElem? (i := 1561) (by decide +kernel)⟩
theorem lw_p42 : lw_okq (⟨"OperaHouseModel", "plain", "(I)V"⟩, 101) := ⟨⟨by decide +kernel, by decide +kernel⟩, List.mem_of_getElem? (i := 1223) (by decide +kernel), List.mem_of_getElem? (i := 1568) (by decide +kernel), List.mem_of_getElem? (i := 1569) (by decide +kernel)⟩
theorem lw_p43 : lw_okq (⟨"OperaHouseModel", "isSinger", "(I)Z"⟩, 101) := ⟨⟨by decide +kernel, by decide +kernel⟩, List.mem_of_getElem? (i := 1223) (by decide +kernel), List.mem_of_getElem? (i := 1584) (by decide +kernel), List.mem_of_getElem? (i := 1585) (by decide +kernel)⟩
theorem lw_p44 : lw_okq (⟨"OperaHouseModel", "next", "()V"⟩, 101) := ⟨⟨by decide +kernel, by decide +kernel⟩, List.mem_of_getElem? (i := 1223) (by decide +kernel), List.mem_of_getElem? (i := 1588) (by decide +kernel), List.mem_of_getElem? (i := 1589) (by decide +kernel)⟩
theorem lw_p45 : lw_okq (⟨"OperaHouseModel", "peek", "()I"⟩, 101) := ⟨⟨by decide +kernel, by decide +kernel⟩, List.mem_of_getElem? (i := 1223) (by decide +kernel), List.mem_of_getElem? (i := 1592) (by decide +kernel), List.mem_of_getElem? (i := 1593) (by decide +kernel)⟩
theorem lw_p46 : lw_okq (⟨"OperaHouseModel", "rule", "()Z"⟩, 101) := ⟨⟨by decide +kernel, by decide +kernel⟩, List.mem_of_getElem? (i := 1223) (by decide +kernel), List.mem_of_getElem? (i := 1602) (by decide +kernel), List.mem_of_getElem? (i := 1603) (by decide +kernel)⟩
theorem lw_p47 : lw_okq (⟨"OperaHouseModel", "isWord", "(J)Z"⟩, 101) := ⟨⟨by decide +kernel, by decide +kernel⟩, List.mem_of_getElem? (i := 1223) (by decide +kernel), List.mem_of_getElem? (i := 1607) (by decide +kernel), List.mem_of_getElem? (i := 1608) (by decide +kernel)⟩
def lw_privs_3 : List (MethodName × Nat) := [(⟨"OperaHouse$Layer", "takeBack", "(I)V"⟩, 13), (⟨"OperaHouse$Layer", "placeNight", "(I)V"⟩, 13), (⟨"OperaHouse$Layer", "putNight", "(I)V"⟩, 13), (⟨"OperaHouse$Layer", "sourceSinger", "(II)I"⟩, 13), (⟨"OperaHouse$Layer", "holds", "(I)Z"⟩, 13), (⟨"OperaHouse$Layer", "startBehind", "(I)V"⟩, 13), (⟨"OperaHouse$Layer", "outcome", "(II)I"⟩, 13), (⟨"java/lang/Throwable", "fillInStackTrace", "(I)Ljava/lang/Throwable;"⟩, 6), (⟨"OperaHouseModel", "four", "(I)V"⟩, 101), (⟨"OperaHouseModel", "taken", "()V"⟩, 101), (⟨"OperaHouseModel", "plain", "(I)V"⟩, 101), (⟨"OperaHouseModel", "isSinger", "(I)Z"⟩, 101), (⟨"OperaHouseModel", "next", "()V"⟩, 101), (⟨"OperaHouseModel", "peek", "()I"⟩, 101), (⟨"OperaHouseModel", "rule", "()Z"⟩, 101), (⟨"OperaHouseModel", "isWord", "(J)Z"⟩, 101)]
theorem lw_r3 : ∀ q ∈ lw_privs_3, lw_okq q := List.forall_mem_cons.mpr ⟨lw_p32, List.forall_mem_cons.mpr ⟨lw_p33, List.forall_mem_cons.mpr ⟨lw_p34, List.forall_mem_cons.mpr ⟨lw_p35, List.forall_mem_cons.mpr ⟨lw_p36, List.forall_mem_cons.mpr ⟨lw_p37, List.forall_mem_cons.mpr ⟨lw_p38, List.forall_mem_cons.mpr ⟨lw_p39, List.forall_mem_cons.mpr ⟨lw_p40, List.forall_mem_cons.mpr ⟨lw_p41, List.forall_mem_cons.mpr ⟨lw_p42, List.forall_mem_cons.mpr ⟨lw_p43, List.forall_mem_cons.mpr ⟨lw_p44, List.forall_mem_cons.mpr ⟨lw_p45, List.forall_mem_cons.mpr ⟨lw_p46, List.forall_mem_cons.mpr ⟨lw_p47, fun _ h => absurd h List.not_mem_nil⟩⟩⟩⟩⟩⟩⟩⟩⟩⟩⟩⟩⟩⟩⟩⟩
theorem lw_p48 : lw_okq (⟨"OperaHouseModel", "once", "(III)Z"⟩, 101) := ⟨⟨by decide +kernel, by decide +kernel⟩, List.mem_of_getElem? (i := 1223) (by decide +kernel), List.mem_of_getElem? (i := 1611) (by decide +kernel), List.mem_of_getElem? (i := 1612) (by decide +kernel)⟩
theorem lw_p49 : lw_okq (⟨"OperaHouseModel", "bad", "(I)Z"⟩, 101) := ⟨⟨by decide +kernel, by decide +kernel⟩, List.mem_of_getElem? (i := 1223) (by decide +kernel), List.mem_of_getElem? (i := 1615) (by decide +kernel), List.mem_of_getElem? (i := 1616) (by decide +kernel)⟩
theorem lw_p50 : lw_okq (⟨"OperaHouseModel", "leave", "()Z"⟩, 101) := ⟨⟨by decide +kernel, by decide +kernel⟩, List.mem_of_getElem? (i := 1223) (by decide +kernel), List.mem_of_getElem? (i := 1623) (by decide +kernel), List.mem_of_getElem? (i := 1624) (by decide +kernel)⟩
theorem lw_p51 : lw_okq (⟨"OperaHouseModel", "fee", "()Z"⟩, 101) := ⟨⟨by decide +kernel, by decide +kernel⟩, List.mem_of_getElem? (i := 1223) (by decide +kernel), List.mem_of_getElem? (i := 1629) (by decide +kernel), List.mem_of_getElem? (i := 1630) (by decide +kernel)⟩
theorem lw_p52 : lw_okq (⟨"OperaHouseModel", "cond", "()Z"⟩, 101) := ⟨⟨by decide +kernel, by decide +kernel⟩, List.mem_of_getElem? (i := 1223) (by decide +kernel), List.mem_of_getElem? (i := 1634) (by decide +kernel), List.mem_of_getElem? (i := 1635) (by decide +kernel)⟩
theorem lw_p53 : lw_okq (⟨"OperaHouseModel", "one", "()Z"⟩, 101) := ⟨⟨by decide +kernel, by decide +kernel⟩, List.mem_of_getElem? (i := 1223) (by decide +kernel), List.mem_of_getElem? (i := 1638) (by decide +kernel), List.mem_of_getElem? (i := 1639) (by decide +kernel)⟩
theorem lw_p54 : lw_okq (⟨"OperaHouseModel", "atom", "()I"⟩, 101) := ⟨⟨by decide +kernel, by decide +kernel⟩, List.mem_of_getElem? (i := 1223) (by decide +kernel), List.mem_of_getElem? (i := 1643) (by decide +kernel), List.mem_of_getElem? (i := 1644) (by decide +kernel)⟩
theorem lw_p55 : lw_okq (⟨"OperaHouseModel", "isSign", "(I)Z"⟩, 101) := ⟨⟨by decide +kernel, by decide +kernel⟩, List.mem_of_getElem? (i := 1223) (by decide +kernel), List.mem_of_getElem? (i := 1657) (by decide +kernel), List.mem_of_getElem? (i := 1658) (by decide +kernel)⟩
theorem lw_p56 : lw_okq (⟨"OperaHouseModel", "open", "()I"⟩, 101) := ⟨⟨by decide +kernel, by decide +kernel⟩, List.mem_of_getElem? (i := 1223) (by decide +kernel), List.mem_of_getElem? (i := 1661) (by decide +kernel), List.mem_of_getElem? (i := 1662) (by decide +kernel)⟩
theorem lw_p57 : lw_okq (⟨"OperaHouseModel", "write", "(III)V"⟩, 101) := ⟨⟨by decide +kernel, by decide +kernel⟩, List.mem_of_getElem? (i := 1223) (by decide +kernel), List.mem_of_getElem? (i := 1665) (by decide +kernel), List.mem_of_getElem? (i := 1666) (by decide +kernel)⟩
theorem lw_p58 : lw_okq (⟨"OperaHouseModel", "writeDown", "(I)V"⟩, 101) := ⟨⟨by decide +kernel, by decide +kernel⟩, List.mem_of_getElem? (i := 1223) (by decide +kernel), List.mem_of_getElem? (i := 1669) (by decide +kernel), List.mem_of_getElem? (i := 1670) (by decide +kernel)⟩
theorem lw_p59 : lw_okq (⟨"OperaHouseModel", "isOpen", "()Z"⟩, 101) := ⟨⟨by decide +kernel, by decide +kernel⟩, List.mem_of_getElem? (i := 1223) (by decide +kernel), List.mem_of_getElem? (i := 1676) (by decide +kernel), List.mem_of_getElem? (i := 1677) (by decide +kernel)⟩
theorem lw_p60 : lw_okq (⟨"OperaHouseModel", "sign", "(I)Z"⟩, 101) := ⟨⟨by decide +kernel, by decide +kernel⟩, List.mem_of_getElem? (i := 1223) (by decide +kernel), List.mem_of_getElem? (i := 1682) (by decide +kernel), List.mem_of_getElem? (i := 1683) (by decide +kernel)⟩
theorem lw_p61 : lw_okq (⟨"OperaHouseModel", "isRole", "(II)Z"⟩, 101) := ⟨⟨by decide +kernel, by decide +kernel⟩, List.mem_of_getElem? (i := 1223) (by decide +kernel), List.mem_of_getElem? (i := 1694) (by decide +kernel), List.mem_of_getElem? (i := 1695) (by decide +kernel)⟩
theorem lw_p62 : lw_okq (⟨"OperaHouseModel", "lengthOf", "(II)I"⟩, 101) := ⟨⟨by decide +kernel, by decide +kernel⟩, List.mem_of_getElem? (i := 1223) (by decide +kernel), List.mem_of_getElem? (i := 1702) (by decide +kernel), List.mem_of_getElem? (i := 1703) (by decide +kernel)⟩
theorem lw_p63 : lw_okq (⟨"OperaHouseModel", "place", "(IIIIII)V"⟩, 101) := ⟨⟨by decide +kernel, by decide +kernel⟩, List.mem_of_getElem? (i := 1223) (by decide +kernel), List.mem_of_getElem? (i := 1706) (by decide +kernel), List.mem_of_getElem? (i := 1707) (by decide +kernel)⟩
def lw_privs_4 : List (MethodName × Nat) := [(⟨"OperaHouseModel", "once", "(III)Z"⟩, 101), (⟨"OperaHouseModel", "bad", "(I)Z"⟩, 101), (⟨"OperaHouseModel", "leave", "()Z"⟩, 101), (⟨"OperaHouseModel", "fee", "()Z"⟩, 101), (⟨"OperaHouseModel", "cond", "()Z"⟩, 101), (⟨"OperaHouseModel", "one", "()Z"⟩, 101), (⟨"OperaHouseModel", "atom", "()I"⟩, 101), (⟨"OperaHouseModel", "isSign", "(I)Z"⟩, 101), (⟨"OperaHouseModel", "open", "()I"⟩, 101), (⟨"OperaHouseModel", "write", "(III)V"⟩, 101), (⟨"OperaHouseModel", "writeDown", "(I)V"⟩, 101), (⟨"OperaHouseModel", "isOpen", "()Z"⟩, 101), (⟨"OperaHouseModel", "sign", "(I)Z"⟩, 101), (⟨"OperaHouseModel", "isRole", "(II)Z"⟩, 101), (⟨"OperaHouseModel", "lengthOf", "(II)I"⟩, 101), (⟨"OperaHouseModel", "place", "(IIIIII)V"⟩, 101)]
theorem lw_r4 : ∀ q ∈ lw_privs_4, lw_okq q := List.forall_mem_cons.mpr ⟨lw_p48, List.forall_mem_cons.mpr ⟨lw_p49, List.forall_mem_cons.mpr ⟨lw_p50, List.forall_mem_cons.mpr ⟨lw_p51, List.forall_mem_cons.mpr ⟨lw_p52, List.forall_mem_cons.mpr ⟨lw_p53, List.forall_mem_cons.mpr ⟨lw_p54, List.forall_mem_cons.mpr ⟨lw_p55, List.forall_mem_cons.mpr ⟨lw_p56, List.forall_mem_cons.mpr ⟨lw_p57, List.forall_mem_cons.mpr ⟨lw_p58, List.forall_mem_cons.mpr ⟨lw_p59, List.forall_mem_cons.mpr ⟨lw_p60, List.forall_mem_cons.mpr ⟨lw_p61, List.forall_mem_cons.mpr ⟨lw_p62, List.forall_mem_cons.mpr ⟨lw_p63, fun _ h => absurd h List.not_mem_nil⟩⟩⟩⟩⟩⟩⟩⟩⟩⟩⟩⟩⟩⟩⟩⟩
theorem lw_p64 : lw_okq (⟨"OperaHouseModel", "isCallRole", "(II)Z"⟩, 101) := ⟨⟨by decide +kernel, by decide +kernel⟩, List.mem_of_getElem? (i := 1223) (by decide +kernel), List.mem_of_getElem? (i := 1714) (by decide +kernel), List.mem_of_getElem? (i := 1715) (by decide +kernel)⟩
theorem lw_p65 : lw_okq (⟨"OperaHouseModel", "tell", "(IIIZ)V"⟩, 101) := ⟨⟨by decide +kernel, by decide +kernel⟩, List.mem_of_getElem? (i := 1223) (by decide +kernel), List.mem_of_getElem? (i := 1718) (by decide +kernel), List.mem_of_getElem? (i := 1719) (by decide +kernel)⟩
theorem lw_p66 : lw_okq (⟨"OperaHouseModel", "load", "(I)V"⟩, 101) := ⟨⟨by decide +kernel, by decide +kernel⟩, List.mem_of_getElem? (i := 1223) (by decide +kernel), List.mem_of_getElem? (i := 1730) (by decide +kernel), List.mem_of_getElem? (i := 1731) (by decide +kernel)⟩
theorem lw_p67 : lw_okq (⟨"OperaHouseModel", "sort", "()V"⟩, 101) := ⟨⟨by decide +kernel, by decide +kernel⟩, List.mem_of_getElem? (i := 1223) (by decide +kernel), List.mem_of_getElem? (i := 1734) (by decide +kernel), List.mem_of_getElem? (i := 1735) (by decide +kernel)⟩
theorem lw_p68 : lw_okq (⟨"OperaHouseModel", "enroll", "(I)V"⟩, 101) := ⟨⟨by decide +kernel, by decide +kernel⟩, List.mem_of_getElem? (i := 1223) (by decide +kernel), List.mem_of_getElem? (i := 1738) (by decide +kernel), List.mem_of_getElem? (i := 1739) (by decide +kernel)⟩
theorem lw_p69 : lw_okq (⟨"OperaHouseModel", "learnedOf", "(III)I"⟩, 101) := ⟨⟨by decide +kernel, by decide +kernel⟩, List.mem_of_getElem? (i := 1223) (by decide +kernel), List.mem_of_getElem? (i := 1746) (by decide +kernel), List.mem_of_getElem? (i := 1747) (by decide +kernel)⟩
theorem lw_p70 : lw_okq (⟨"OperaHouseModel", "longOf", "(I)I"⟩, 101) := ⟨⟨by decide +kernel, by decide +kernel⟩, List.mem_of_getElem? (i := 1223) (by decide +kernel), List.mem_of_getElem? (i := 1750) (by decide +kernel), List.mem_of_getElem? (i := 1751) (by decide +kernel)⟩
theorem lw_p71 : lw_okq (⟨"OperaHouseModel", "tiredOf", "(II)I"⟩, 101) := ⟨⟨by decide +kernel, by decide +kernel⟩, List.mem_of_getElem? (i := 1223) (by decide +kernel), List.mem_of_getElem? (i := 1758) (by decide +kernel), List.mem_of_getElem? (i := 1759) (by decide +kernel)⟩
theorem lw_p72 : lw_okq (⟨"OperaHouseModel", "isIn", "(II)Z"⟩, 101) := ⟨⟨by decide +kernel, by decide +kernel⟩, List.mem_of_getElem? (i := 1223) (by decide +kernel), List.mem_of_getElem? (i := 1762) (by decide +kernel), List.mem_of_getElem? (i := 1763) (by decide +kernel)⟩
theorem lw_p73 : lw_okq (⟨"OperaHouseModel", "feeOf", "(II)I"⟩, 101) := ⟨⟨by decide +kernel, by decide +kernel⟩, List.mem_of_getElem? (i := 1223) (by decide +kernel), List.mem_of_getElem? (i := 1770) (by decide +kernel), List.mem_of_getElem? (i := 1771) (by decide +kernel)⟩
theorem lw_p74 : lw_okq (⟨"OperaHouseModel", "isCover", "(II)Z"⟩, 101) := ⟨⟨by decide +kernel, by decide +kernel⟩, List.mem_of_getElem? (i := 1223) (by decide +kernel), List.mem_of_getElem? (i := 1774) (by decide +kernel), List.mem_of_getElem? (i := 1775) (by decide +kernel)⟩
theorem lw_p75 : lw_okq (⟨"OperaHouseModel", "isIll", "(II)Z"⟩, 101) := ⟨⟨by decide +kernel, by decide +kernel⟩, List.mem_of_getElem? (i := 1223) (by decide +kernel), List.mem_of_getElem? (i := 1778) (by decide +kernel), List.mem_of_getElem? (i := 1779) (by decide +kernel)⟩
theorem lw_p76 : lw_okq (⟨"OperaHouseModel", "isSo", "(IIIIZ)Z"⟩, 101) := ⟨⟨by decide +kernel, by decide +kernel⟩, List.mem_of_getElem? (i := 1223) (by decide +kernel), List.mem_of_getElem? (i := 1782) (by decide +kernel), List.mem_of_getElem? (i := 1783) (by decide +kernel)⟩
theorem lw_p77 : lw_okq (⟨"OperaHouseModel", "asks", "(IIIZ)Z"⟩, 101) := ⟨⟨by decide +kernel, by decide +kernel⟩, List.mem_of_getElem? (i := 1223) (by decide +kernel), List.mem_of_getElem? (i := 1786) (by decide +kernel), List.mem_of_getElem? (i := 1787) (by decide +kernel)⟩
theorem lw_p78 : lw_okq (⟨"OperaHouseModel", "cameInstead", "(II)Z"⟩, 101) := ⟨⟨by decide +kernel, by decide +kernel⟩, List.mem_of_getElem? (i := 1223) (by decide +kernel), List.mem_of_getElem? (i := 1790) (by decide +kernel), List.mem_of_getElem? (i := 1791) (by decide +kernel)⟩
theorem lw_p79 : lw_okq (⟨"OperaHouseModel", "numberOf", "(IIIZ)I"⟩, 101) := ⟨⟨by decide +kernel, by decide +kernel⟩, List.mem_of_getElem? (i := 1223) (by decide +kernel), List.mem_of_getElem? (i := 1794) (by decide +kernel), List.mem_of_getElem? (i := 1795) (by decide +kernel)⟩
def lw_privs_5 : List (MethodName × Nat) := [(⟨"OperaHouseModel", "isCallRole", "(II)Z"⟩, 101), (⟨"OperaHouseModel", "tell", "(IIIZ)V"⟩, 101), (⟨"OperaHouseModel", "load", "(I)V"⟩, 101), (⟨"OperaHouseModel", "sort", "()V"⟩, 101), (⟨"OperaHouseModel", "enroll", "(I)V"⟩, 101), (⟨"OperaHouseModel", "learnedOf", "(III)I"⟩, 101), (⟨"OperaHouseModel", "longOf", "(I)I"⟩, 101), (⟨"OperaHouseModel", "tiredOf", "(II)I"⟩, 101), (⟨"OperaHouseModel", "isIn", "(II)Z"⟩, 101), (⟨"OperaHouseModel", "feeOf", "(II)I"⟩, 101), (⟨"OperaHouseModel", "isCover", "(II)Z"⟩, 101), (⟨"OperaHouseModel", "isIll", "(II)Z"⟩, 101), (⟨"OperaHouseModel", "isSo", "(IIIIZ)Z"⟩, 101), (⟨"OperaHouseModel", "asks", "(IIIZ)Z"⟩, 101), (⟨"OperaHouseModel", "cameInstead", "(II)Z"⟩, 101), (⟨"OperaHouseModel", "numberOf", "(IIIZ)I"⟩, 101)]
theorem lw_r5 : ∀ q ∈ lw_privs_5, lw_okq q := List.forall_mem_cons.mpr ⟨lw_p64, List.forall_mem_cons.mpr ⟨lw_p65, List.forall_mem_cons.mpr ⟨lw_p66, List.forall_mem_cons.mpr ⟨lw_p67, List.forall_mem_cons.mpr ⟨lw_p68, List.forall_mem_cons.mpr ⟨lw_p69, List.forall_mem_cons.mpr ⟨lw_p70, List.forall_mem_cons.mpr ⟨lw_p71, List.forall_mem_cons.mpr ⟨lw_p72, List.forall_mem_cons.mpr ⟨lw_p73, List.forall_mem_cons.mpr ⟨lw_p74, List.forall_mem_cons.mpr ⟨lw_p75, List.forall_mem_cons.mpr ⟨lw_p76, List.forall_mem_cons.mpr ⟨lw_p77, List.forall_mem_cons.mpr ⟨lw_p78, List.forall_mem_cons.mpr ⟨lw_p79, fun _ h => absurd h List.not_mem_nil⟩⟩⟩⟩⟩⟩⟩⟩⟩⟩⟩⟩⟩⟩⟩⟩
theorem lw_p80 : lw_okq (⟨"OperaHouseModel", "nights", "(III)I"⟩, 101) := ⟨⟨by decide +kernel, by decide +kernel⟩, List.mem_of_getElem? (i := 1223) (by decide +kernel), List.mem_of_getElem? (i := 1798) (by decide +kernel), List.mem_of_getElem? (i := 1799) (by decide +kernel)⟩
theorem lw_p81 : lw_okq (⟨"OperaHouseModel", "dayHours", "(II)I"⟩, 101) := ⟨⟨by decide +kernel, by decide +kernel⟩, List.mem_of_getElem? (i := 1223) (by decide +kernel), List.mem_of_getElem? (i := 1802) (by decide +kernel), List.mem_of_getElem? (i := 1803) (by decide +kernel)⟩
theorem lw_p82 : lw_okq (⟨"OperaHouseModel", "atFirst", "()V"⟩, 101) := ⟨⟨by decide +kernel, by decide +kernel⟩, List.mem_of_getElem? (i := 1223) (by decide +kernel), List.mem_of_getElem? (i := 1814) (by decide +kernel), List.mem_of_getElem? (i := 1815) (by decide +kernel)⟩
theorem lw_p83 : lw_okq (⟨"OperaHouseModel", "canStand", "(I)Z"⟩, 101) := ⟨⟨by decide +kernel, by decide +kernel⟩, List.mem_of_getElem? (i := 1223) (by decide +kernel), List.mem_of_getElem? (i := 1818) (by decide +kernel), List.mem_of_getElem? (i := 1819) (by decide +kernel)⟩
theorem lw_p84 : lw_okq (⟨"OperaHouseModel", "goOn", "()Z"⟩, 101) := ⟨⟨by decide +kernel, by decide +kernel⟩, List.mem_of_getElem? (i := 1223) (by decide +kernel), List.mem_of_getElem? (i := 1825) (by decide +kernel), List.mem_of_getElem? (i := 1826) (by decide +kernel)⟩
theorem lw_p85 : lw_okq (⟨"OperaHouseModel", "judge", "()V"⟩, 101) := ⟨⟨by decide +kernel, by decide +kernel⟩, List.mem_of_getElem? (i := 1223) (by decide +kernel), List.mem_of_getElem? (i := 1839) (by decide +kernel), List.mem_of_getElem? (i := 1840) (by decide +kernel)⟩
theorem lw_p86 : lw_okq (⟨"OperaHouseModel", "roll", "()V"⟩, 101) := ⟨⟨by decide +kernel, by decide +kernel⟩, List.mem_of_getElem? (i := 1223) (by decide +kernel), List.mem_of_getElem? (i := 1843) (by decide +kernel), List.mem_of_getElem? (i := 1844) (by decide +kernel)⟩
theorem lw_p87 : lw_okq (⟨"OperaHouseModel", "isCallWrong", "(II)Z"⟩, 101) := ⟨⟨by decide +kernel, by decide +kernel⟩, List.mem_of_getElem? (i := 1223) (by decide +kernel), List.mem_of_getElem? (i := 1847) (by decide +kernel), List.mem_of_getElem? (i := 1848) (by decide +kernel)⟩
theorem lw_p88 : lw_okq (⟨"OperaHouseModel", "isFullStage", "(I)Z"⟩, 101) := ⟨⟨by decide +kernel, by decide +kernel⟩, List.mem_of_getElem? (i := 1223) (by decide +kernel), List.mem_of_getElem? (i := 1851) (by decide +kernel), List.mem_of_getElem? (i := 1852) (by decide +kernel)⟩
theorem lw_p89 : lw_okq (⟨"OperaHouseModel", "isOn", "(II)Z"⟩, 101) := ⟨⟨by decide +kernel, by decide +kernel⟩, List.mem_of_getElem? (i := 1223) (by decide +kernel), List.mem_of_getElem? (i := 1855) (by decide +kernel), List.mem_of_getElem? (i := 1856) (by decide +kernel)⟩
theorem lw_p90 : lw_okq (⟨"OperaHouseModel", "isUnready", "(I)Z"⟩, 101) := ⟨⟨by decide +kernel, by decide +kernel⟩, List.mem_of_getElem? (i := 1223) (by decide +kernel), List.mem_of_getElem? (i := 1859) (by decide +kernel), List.mem_of_getElem? (i := 1860) (by decide +kernel)⟩
theorem lw_p91 : lw_okq (⟨"OperaHouseModel", "firstEnd", "(III)I"⟩, 101) := ⟨⟨by decide +kernel, by decide +kernel⟩, List.mem_of_getElem? (i := 1223) (by decide +kernel), List.mem_of_getElem? (i := 1863) (by decide +kernel), List.mem_of_getElem? (i := 1864) (by decide +kernel)⟩
theorem lw_p92 : lw_okq (⟨"OperaHouseModel", "lacksPlayers", "(I)Z"⟩, 101) := ⟨⟨by decide +kernel, by decide +kernel⟩, List.mem_of_getElem? (i := 1223) (by decide +kernel), List.mem_of_getElem? (i := 1868) (by decide +kernel), List.mem_of_getElem? (i := 1869) (by decide +kernel)⟩
theorem lw_p93 : lw_okq (⟨"OperaHouseModel", "playsTwice", "(I)Z"⟩, 101) := ⟨⟨by decide +kernel, by decide +kernel⟩, List.mem_of_getElem? (i := 1223) (by decide +kernel), List.mem_of_getElem? (i := 1872) (by decide +kernel), List.mem_of_getElem? (i := 1873) (by decide +kernel)⟩
theorem lw_p94 : lw_okq (⟨"OperaHouseModel", "tiresChorus", "(I)Z"⟩, 101) := ⟨⟨by decide +kernel, by decide +kernel⟩, List.mem_of_getElem? (i := 1223) (by decide +kernel), List.mem_of_getElem? (i := 1876) (by decide +kernel), List.mem_of_getElem? (i := 1877) (by decide +kernel)⟩
theorem lw_p95 : lw_okq (⟨"OperaHouseModel", "note", "(III)V"⟩, 101) := ⟨⟨by decide +kernel, by decide +kernel⟩, List.mem_of_getElem? (i := 1223) (by decide +kernel), List.mem_of_getElem? (i := 1880) (by decide +kernel), List.mem_of_getElem? (i := 1881) (by decide +kernel)⟩
def lw_privs_6 : List (MethodName × Nat) := [(⟨"OperaHouseModel", "nights", "(III)I"⟩, 101), (⟨"OperaHouseModel", "dayHours", "(II)I"⟩, 101), (⟨"OperaHouseModel", "atFirst", "()V"⟩, 101), (⟨"OperaHouseModel", "canStand", "(I)Z"⟩, 101), (⟨"OperaHouseModel", "goOn", "()Z"⟩, 101), (⟨"OperaHouseModel", "judge", "()V"⟩, 101), (⟨"OperaHouseModel", "roll", "()V"⟩, 101), (⟨"OperaHouseModel", "isCallWrong", "(II)Z"⟩, 101), (⟨"OperaHouseModel", "isFullStage", "(I)Z"⟩, 101), (⟨"OperaHouseModel", "isOn", "(II)Z"⟩, 101), (⟨"OperaHouseModel", "isUnready", "(I)Z"⟩, 101), (⟨"OperaHouseModel", "firstEnd", "(III)I"⟩, 101), (⟨"OperaHouseModel", "lacksPlayers", "(I)Z"⟩, 101), (⟨"OperaHouseModel", "playsTwice", "(I)Z"⟩, 101), (⟨"OperaHouseModel", "tiresChorus", "(I)Z"⟩, 101), (⟨"OperaHouseModel", "note", "(III)V"⟩, 101)]
theorem lw_r6 : ∀ q ∈ lw_privs_6, lw_okq q := List.forall_mem_cons.mpr ⟨lw_p80, List.forall_mem_cons.mpr ⟨lw_p81, List.forall_mem_cons.mpr ⟨lw_p82, List.forall_mem_cons.mpr ⟨lw_p83, List.forall_mem_cons.mpr ⟨lw_p84, List.forall_mem_cons.mpr ⟨lw_p85, List.forall_mem_cons.mpr ⟨lw_p86, List.forall_mem_cons.mpr ⟨lw_p87, List.forall_mem_cons.mpr ⟨lw_p88, List.forall_mem_cons.mpr ⟨lw_p89, List.forall_mem_cons.mpr ⟨lw_p90, List.forall_mem_cons.mpr ⟨lw_p91, List.forall_mem_cons.mpr ⟨lw_p92, List.forall_mem_cons.mpr ⟨lw_p93, List.forall_mem_cons.mpr ⟨lw_p94, List.forall_mem_cons.mpr ⟨lw_p95, fun _ h => absurd h List.not_mem_nil⟩⟩⟩⟩⟩⟩⟩⟩⟩⟩⟩⟩⟩⟩⟩⟩
theorem lw_p96 : lw_okq (⟨"OperaHouseModel", "isWrong", "(IIII)Z"⟩, 101) := ⟨⟨by decide +kernel, by decide +kernel⟩, List.mem_of_getElem? (i := 1223) (by decide +kernel), List.mem_of_getElem? (i := 1884) (by decide +kernel), List.mem_of_getElem? (i := 1885) (by decide +kernel)⟩
theorem lw_p97 : lw_okq (⟨"OperaHouseModel", "suits", "(III)Z"⟩, 101) := ⟨⟨by decide +kernel, by decide +kernel⟩, List.mem_of_getElem? (i := 1223) (by decide +kernel), List.mem_of_getElem? (i := 1888) (by decide +kernel), List.mem_of_getElem? (i := 1889) (by decide +kernel)⟩
theorem lw_p98 : lw_okq (⟨"OperaHouseModel", "isAway", "(II)Z"⟩, 101) := ⟨⟨by decide +kernel, by decide +kernel⟩, List.mem_of_getElem? (i := 1223) (by decide +kernel), List.mem_of_getElem? (i := 1895) (by decide +kernel), List.mem_of_getElem? (i := 1896) (by decide +kernel)⟩
theorem lw_p99 : lw_okq (⟨"OperaHouseModel", "isBusy", "(III)Z"⟩, 101) := ⟨⟨by decide +kernel, by decide +kernel⟩, List.mem_of_getElem? (i := 1223) (by decide +kernel), List.mem_of_getElem? (i := 1899) (by decide +kernel), List.mem_of_getElem? (i := 1900) (by decide +kernel)⟩
theorem lw_p100 : lw_okq (⟨"OperaHouseModel", "lacksRest", "(II)Z"⟩, 101) := ⟨⟨by decide +kernel, by decide +kernel⟩, List.mem_of_getElem? (i := 1223) (by decide +kernel), List.mem_of_getElem? (i := 1903) (by decide +kernel), List.mem_of_getElem? (i := 1904) (by decide +kernel)⟩
theorem lw_p101 : lw_okq (⟨"OperaHouseModel", "throwsIf", "(Z)Z"⟩, 101) := ⟨⟨by decide +kernel, by decide +kernel⟩, List.mem_of_getElem? (i := 1223) (by decide +kernel), List.mem_of_getElem? (i := 1911) (by decide +kernel), List.mem_of_getElem? (i := 1912) (by decide +kernel)⟩
theorem lw_p102 : lw_okq (⟨"OperaHouseModel", "mayHave", "(III)Z"⟩, 101) := ⟨⟨by decide +kernel, by decide +kernel⟩, List.mem_of_getElem? (i := 1223) (by decide +kernel), List.mem_of_getElem? (i := 1919) (by decide +kernel), List.mem_of_getElem? (i := 1920) (by decide +kernel)⟩
theorem lw_p103 : lw_okq (⟨"OperaHouseModel", "unmark", "()V"⟩, 101) := ⟨⟨by decide +kernel, by decide +kernel⟩, List.mem_of_getElem? (i := 1223) (by decide +kernel), List.mem_of_getElem? (i := 1923) (by decide +kernel), List.mem_of_getElem? (i := 1924) (by decide +kernel)⟩
theorem lw_p104 : lw_okq (⟨"OperaHouseModel", "marks", "(IZ)Z"⟩, 101) := ⟨⟨by decide +kernel, by decide +kernel⟩, List.mem_of_getElem? (i := 1223) (by decide +kernel), List.mem_of_getElem? (i := 1927) (by decide +kernel), List.mem_of_getElem? (i := 1928) (by decide +kernel)⟩
theorem lw_p105 : lw_okq (⟨"OperaHouseModel", "put", "(III)V"⟩, 101) := ⟨⟨by decide +kernel, by decide +kernel⟩, List.mem_of_getElem? (i := 1223) (by decide +kernel), List.mem_of_getElem? (i := 1934) (by decide +kernel), List.mem_of_getElem? (i := 1935) (by decide +kernel)⟩
theorem lw_p106 : lw_okq (⟨"OperaHouseModel", "harmOf", "(III)I"⟩, 101) := ⟨⟨by decide +kernel, by decide +kernel⟩, List.mem_of_getElem? (i := 1223) (by decide +kernel), List.mem_of_getElem? (i := 1942) (by decide +kernel), List.mem_of_getElem? (i := 1943) (by decide +kernel)⟩
theorem lw_p107 : lw_okq (⟨"OperaHouseModel", "putNight", "(III)V"⟩, 101) := ⟨⟨by decide +kernel, by decide +kernel⟩, List.mem_of_getElem? (i := 1223) (by decide +kernel), List.mem_of_getElem? (i := 1954) (by decide +kernel), List.mem_of_getElem? (i := 1955) (by decide +kernel)⟩
theorem lw_p108 : lw_okq (⟨"OperaHouseModel", "goes", "(I)Z"⟩, 101) := ⟨⟨by decide +kernel, by decide +kernel⟩, List.mem_of_getElem? (i := 1223) (by decide +kernel), List.mem_of_getElem? (i := 1958) (by decide +kernel), List.mem_of_getElem? (i := 1959) (by decide +kernel)⟩
def lw_privs_7 : List (MethodName × Nat) := [(⟨"OperaHouseModel", "isWrong", "(IIII)Z"⟩, 101), (⟨"OperaHouseModel", "suits", "(III)Z"⟩, 101), (⟨"OperaHouseModel", "isAway", "(II)Z"⟩, 101), (⟨"OperaHouseModel", "isBusy", "(III)Z"⟩, 101), (⟨"OperaHouseModel", "lacksRest", "(II)Z"⟩, 101), (⟨"OperaHouseModel", "throwsIf", "(Z)Z"⟩, 101), (⟨"OperaHouseModel", "mayHave", "(III)Z"⟩, 101), (⟨"OperaHouseModel", "unmark", "()V"⟩, 101), (⟨"OperaHouseModel", "marks", "(IZ)Z"⟩, 101), (⟨"OperaHouseModel", "put", "(III)V"⟩, 101), (⟨"OperaHouseModel", "harmOf", "(III)I"⟩, 101), (⟨"OperaHouseModel", "putNight", "(III)V"⟩, 101), (⟨"OperaHouseModel", "goes", "(I)Z"⟩, 101)]
theorem lw_r7 : ∀ q ∈ lw_privs_7, lw_okq q := List.forall_mem_cons.mpr ⟨lw_p96, List.forall_mem_cons.mpr ⟨lw_p97, List.forall_mem_cons.mpr ⟨lw_p98, List.forall_mem_cons.mpr ⟨lw_p99, List.forall_mem_cons.mpr ⟨lw_p100, List.forall_mem_cons.mpr ⟨lw_p101, List.forall_mem_cons.mpr ⟨lw_p102, List.forall_mem_cons.mpr ⟨lw_p103, List.forall_mem_cons.mpr ⟨lw_p104, List.forall_mem_cons.mpr ⟨lw_p105, List.forall_mem_cons.mpr ⟨lw_p106, List.forall_mem_cons.mpr ⟨lw_p107, List.forall_mem_cons.mpr ⟨lw_p108, fun _ h => absurd h List.not_mem_nil⟩⟩⟩⟩⟩⟩⟩⟩⟩⟩⟩⟩⟩
def lw_privs : List (MethodName × Nat) := lw_privs_1 ++ (lw_privs_2 ++ (lw_privs_3 ++ (lw_privs_4 ++ (lw_privs_5 ++ (lw_privs_6 ++ (lw_privs_7))))))
def lw_tbl : List Cond := k2_sels lw_privs ++ tables_1
theorem lw_privs_ok : ∀ q ∈ lw_privs, lw_okq q := by
  show ∀ q ∈ lw_privs_1 ++ (lw_privs_2 ++ (lw_privs_3 ++ (lw_privs_4 ++ (lw_privs_5 ++ (lw_privs_6 ++ (lw_privs_7)))))), lw_okq q
  exact List.forall_mem_append.mpr ⟨lw_r1, List.forall_mem_append.mpr ⟨lw_r2, List.forall_mem_append.mpr ⟨lw_r3, List.forall_mem_append.mpr ⟨lw_r4, List.forall_mem_append.mpr ⟨lw_r5, List.forall_mem_append.mpr ⟨lw_r6, lw_r7⟩⟩⟩⟩⟩⟩
-- ===== end of PART A; then your names; then what follows =====
end
section
def RX0 : String := "OperaHouse$Calls"
def TX0 : u_T := fun k => match k with
  | 0 => ("OperaHouse$Calls", "number", "I", false)
  | 1 => ("OperaHouse$Calls", "day", "[I", true)
  | 2 => ("OperaHouse$Calls", "begin", "[I", true)
  | 3 => ("OperaHouse$Calls", "finish", "[I", true)
  | 4 => ("OperaHouse$Calls", "kind", "[I", true)
  | 5 => ("OperaHouse$Calls", "opera", "[I", true)
  | 6 => ("OperaHouse$Calls", "halves", "[I", true)
  | _ => ("OperaHouse$Calls", "order", "[I", true)
def tyX0 : Nat → FieldType := fun k => match k with
  | 0 => .int
  | 1 => .array .int
  | 2 => .array .int
  | 3 => .array .int
  | 4 => .array .int
  | 5 => .array .int
  | 6 => .array .int
  | _ => .array .int
theorem nmX0 : ∀ a, a < 8 → ∀ b, b < 8 → a ≠ b → (TX0 a).2.1 ≠ (TX0 b).2.1 := by decide +kernel
theorem tyX0_ok : ∀ k, k < 8 → parseFieldDescriptor (TX0 k).2.2.1 = some (tyX0 k) := by decide +kernel
def RX1 : String := "OperaHouse$Contract"
def TX1 : u_T := fun k => match k with
  | 0 => ("OperaHouse$Contract", "limits", "[I", true)
  | 1 => ("OperaHouse$Contract", "sums", "[I", true)
  | 2 => ("OperaHouse$Contract", "starts", "[I", true)
  | 3 => ("OperaHouse$Contract", "plan", "[I", true)
  | 4 => ("OperaHouse$Contract", "limitsTold", "I", false)
  | 5 => ("OperaHouse$Contract", "leaves", "I", false)
  | 6 => ("OperaHouse$Contract", "daysAway", "I", false)
  | 7 => ("OperaHouse$Contract", "fees", "I", false)
  | _ => ("OperaHouse$Contract", "steps", "I", false)
def tyX1 : Nat → FieldType := fun k => match k with
  | 0 => .array .int
  | 1 => .array .int
  | 2 => .array .int
  | 3 => .array .int
  | 4 => .int
  | 5 => .int
  | 6 => .int
  | 7 => .int
  | _ => .int
theorem nmX1 : ∀ a, a < 9 → ∀ b, b < 9 → a ≠ b → (TX1 a).2.1 ≠ (TX1 b).2.1 := by decide +kernel
theorem tyX1_ok : ∀ k, k < 9 → parseFieldDescriptor (TX1 k).2.2.1 = some (tyX1 k) := by decide +kernel
def RX2 : String := "OperaHouse$House"
def TX2 : u_T := fun k => match k with
  | 0 => ("OperaHouse$House", "operas", "I", false)
  | 1 => ("OperaHouse$House", "singers", "I", false)
  | 2 => ("OperaHouse$House", "daily", "I", false)
  | 3 => ("OperaHouse$House", "weekly", "I", false)
  | 4 => ("OperaHouse$House", "spare", "LOperaHouse$Contract;", false)
  | 5 => ("OperaHouse$House", "opera", "[LOperaHouse$Opera;", true)
  | 6 => ("OperaHouse$House", "contract", "[LOperaHouse$Contract;", true)
  | 7 => ("OperaHouse$House", "voices", "[I", true)
  | 8 => ("OperaHouse$House", "tongues", "[I", true)
  | 9 => ("OperaHouse$House", "sizes", "[I", true)
  | 10 => ("OperaHouse$House", "oneHalf", "[I", true)
  | _ => ("OperaHouse$House", "otherHalf", "[I", true)
def tyX2 : Nat → FieldType := fun k => match k with
  | 0 => .int
  | 1 => .int
  | 2 => .int
  | 3 => .int
  | 4 => .object "OperaHouse$Contract"
  | 5 => .array (.object "OperaHouse$Opera")
  | 6 => .array (.object "OperaHouse$Contract")
  | 7 => .array .int
  | 8 => .array .int
  | 9 => .array .int
  | 10 => .array .int
  | _ => .array .int
theorem nmX2 : ∀ a, a < 12 → ∀ b, b < 12 → a ≠ b → (TX2 a).2.1 ≠ (TX2 b).2.1 := by decide +kernel
theorem tyX2_ok : ∀ k, k < 12 → parseFieldDescriptor (TX2 k).2.2.1 = some (tyX2 k) := by decide +kernel
def RX3 : String := "OperaHouse$Judge"
def TX3 : u_T := fun k => match k with
  | 0 => ("OperaHouse$Judge", "house", "LOperaHouse$House;", true)
  | 1 => ("OperaHouse$Judge", "calls", "LOperaHouse$Calls;", true)
  | 2 => ("OperaHouse$Judge", "ledger", "LOperaHouse$Ledger;", true)
  | 3 => ("OperaHouse$Judge", "wagons", "LOperaHouse$Wagons;", true)
  | 4 => ("OperaHouse$Judge", "walk", "LOperaHouse$Walk;", true)
  | _ => ("OperaHouse$Judge", "bits", "[I", true)
def tyX3 : Nat → FieldType := fun k => match k with
  | 0 => .object "OperaHouse$House"
  | 1 => .object "OperaHouse$Calls"
  | 2 => .object "OperaHouse$Ledger"
  | 3 => .object "OperaHouse$Wagons"
  | 4 => .object "OperaHouse$Walk"
  | _ => .array .int
theorem nmX3 : ∀ a, a < 6 → ∀ b, b < 6 → a ≠ b → (TX3 a).2.1 ≠ (TX3 b).2.1 := by decide +kernel
theorem tyX3_ok : ∀ k, k < 6 → parseFieldDescriptor (TX3 k).2.2.1 = some (tyX3 k) := by decide +kernel
def RX4 : String := "OperaHouse$Layer"
def TX4 : u_T := fun k => match k with
  | 0 => ("OperaHouse$Layer", "house", "LOperaHouse$House;", true)
  | 1 => ("OperaHouse$Layer", "calls", "LOperaHouse$Calls;", true)
  | 2 => ("OperaHouse$Layer", "ledger", "LOperaHouse$Ledger;", true)
  | 3 => ("OperaHouse$Layer", "judge", "LOperaHouse$Judge;", true)
  | 4 => ("OperaHouse$Layer", "wished", "[I", true)
  | 5 => ("OperaHouse$Layer", "source", "[I", true)
  | 6 => ("OperaHouse$Layer", "callBits", "[I", true)
  | 7 => ("OperaHouse$Layer", "spotBits", "[I", true)
  | 8 => ("OperaHouse$Layer", "wishes", "I", false)
  | 9 => ("OperaHouse$Layer", "hour", "I", false)
  | 10 => ("OperaHouse$Layer", "day", "[I", true)
  | 11 => ("OperaHouse$Layer", "nights", "I", false)
  | _ => ("OperaHouse$Layer", "fresh", "Z", false)
def tyX4 : Nat → FieldType := fun k => match k with
  | 0 => .object "OperaHouse$House"
  | 1 => .object "OperaHouse$Calls"
  | 2 => .object "OperaHouse$Ledger"
  | 3 => .object "OperaHouse$Judge"
  | 4 => .array .int
  | 5 => .array .int
  | 6 => .array .int
  | 7 => .array .int
  | 8 => .int
  | 9 => .int
  | 10 => .array .int
  | 11 => .int
  | _ => .boolean
theorem nmX4 : ∀ a, a < 13 → ∀ b, b < 13 → a ≠ b → (TX4 a).2.1 ≠ (TX4 b).2.1 := by decide +kernel
theorem tyX4_ok : ∀ k, k < 13 → parseFieldDescriptor (TX4 k).2.2.1 = some (tyX4 k) := by decide +kernel
def RX5 : String := "OperaHouse$Ledger"
def TX5 : u_T := fun k => match k with
  | 0 => ("OperaHouse$Ledger", "casts", "I", false)
  | 1 => ("OperaHouse$Ledger", "castSpot", "[I", true)
  | 2 => ("OperaHouse$Ledger", "castSinger", "[I", true)
  | 3 => ("OperaHouse$Ledger", "castDay", "[I", true)
  | 4 => ("OperaHouse$Ledger", "castCovers", "[Z", true)
  | 5 => ("OperaHouse$Ledger", "ills", "I", false)
  | 6 => ("OperaHouse$Ledger", "illSinger", "[I", true)
  | 7 => ("OperaHouse$Ledger", "illDays", "[I", true)
  | 8 => ("OperaHouse$Ledger", "illTold", "[I", true)
  | 9 => ("OperaHouse$Ledger", "lessons", "I", false)
  | 10 => ("OperaHouse$Ledger", "lessonPart", "[I", true)
  | 11 => ("OperaHouse$Ledger", "lessonHours", "[I", true)
  | 12 => ("OperaHouse$Ledger", "lessonDay", "[I", true)
  | 13 => ("OperaHouse$Ledger", "cast", "[I", true)
  | 14 => ("OperaHouse$Ledger", "earlier", "[I", true)
  | 15 => ("OperaHouse$Ledger", "cover", "[I", true)
  | 16 => ("OperaHouse$Ledger", "roles", "[I", true)
  | 17 => ("OperaHouse$Ledger", "sick", "[I", true)
  | _ => ("OperaHouse$Ledger", "hours", "[I", true)
def tyX5 : Nat → FieldType := fun k => match k with
  | 0 => .int
  | 1 => .array .int
  | 2 => .array .int
  | 3 => .array .int
  | 4 => .array .boolean
  | 5 => .int
  | 6 => .array .int
  | 7 => .array .int
  | 8 => .array .int
  | 9 => .int
  | 10 => .array .int
  | 11 => .array .int
  | 12 => .array .int
  | 13 => .array .int
  | 14 => .array .int
  | 15 => .array .int
  | 16 => .array .int
  | 17 => .array .int
  | _ => .array .int
theorem nmX5 : ∀ a, a < 19 → ∀ b, b < 19 → a ≠ b → (TX5 a).2.1 ≠ (TX5 b).2.1 := by decide +kernel
theorem tyX5_ok : ∀ k, k < 19 → parseFieldDescriptor (TX5 k).2.2.1 = some (tyX5 k) := by decide +kernel
def RX6 : String := "OperaHouse$Opera"
def TX6 : u_T := fun k => match k with
  | 0 => ("OperaHouse$Opera", "hours", "I", false)
  | 1 => ("OperaHouse$Opera", "stageSet", "I", false)
  | 2 => ("OperaHouse$Opera", "need", "I", false)
  | 3 => ("OperaHouse$Opera", "roles", "I", false)
  | 4 => ("OperaHouse$Opera", "hasChorus", "Z", false)
  | 5 => ("OperaHouse$Opera", "seats", "[I", true)
  | 6 => ("OperaHouse$Opera", "voice", "[I", true)
  | 7 => ("OperaHouse$Opera", "strain", "[I", true)
  | 8 => ("OperaHouse$Opera", "tongue", "[I", true)
  | _ => ("OperaHouse$Opera", "size", "[I", true)
def tyX6 : Nat → FieldType := fun k => match k with
  | 0 => .int
  | 1 => .int
  | 2 => .int
  | 3 => .int
  | 4 => .boolean
  | 5 => .array .int
  | 6 => .array .int
  | 7 => .array .int
  | 8 => .array .int
  | _ => .array .int
theorem nmX6 : ∀ a, a < 10 → ∀ b, b < 10 → a ≠ b → (TX6 a).2.1 ≠ (TX6 b).2.1 := by decide +kernel
theorem tyX6_ok : ∀ k, k < 10 → parseFieldDescriptor (TX6 k).2.2.1 = some (tyX6 k) := by decide +kernel
def RX7 : String := "OperaHouse$Reader"
def TX7 : u_T := fun k => match k with
  | 0 => ("OperaHouse$Reader", "tape", "[I", true)
  | 1 => ("OperaHouse$Reader", "size", "I", false)
  | 2 => ("OperaHouse$Reader", "at", "I", false)
  | 3 => ("OperaHouse$Reader", "place", "I", false)
  | 4 => ("OperaHouse$Reader", "number", "I", false)
  | 5 => ("OperaHouse$Reader", "ones", "I", false)
  | 6 => ("OperaHouse$Reader", "token", "LOperaHouse$Token;", false)
  | 7 => ("OperaHouse$Reader", "paper", "LOperaHouse$Contract;", false)
  | _ => ("OperaHouse$Reader", "faultKind", "I", false)
def tyX7 : Nat → FieldType := fun k => match k with
  | 0 => .array .int
  | 1 => .int
  | 2 => .int
  | 3 => .int
  | 4 => .int
  | 5 => .int
  | 6 => .object "OperaHouse$Token"
  | 7 => .object "OperaHouse$Contract"
  | _ => .int
theorem nmX7 : ∀ a, a < 9 → ∀ b, b < 9 → a ≠ b → (TX7 a).2.1 ≠ (TX7 b).2.1 := by decide +kernel
theorem tyX7_ok : ∀ k, k < 9 → parseFieldDescriptor (TX7 k).2.2.1 = some (tyX7 k) := by decide +kernel
def RX9 : String := "OperaHouse$Wagons"
def TX9 : u_T := fun k => match k with
  | 0 => ("OperaHouse$Wagons", "seen", "[Z", true)
  | 1 => ("OperaHouse$Wagons", "stands", "[I", true)
  | _ => ("OperaHouse$Wagons", "number", "I", false)
def tyX9 : Nat → FieldType := fun k => match k with
  | 0 => .array .boolean
  | 1 => .array .int
  | _ => .int
theorem nmX9 : ∀ a, a < 3 → ∀ b, b < 3 → a ≠ b → (TX9 a).2.1 ≠ (TX9 b).2.1 := by decide +kernel
theorem tyX9_ok : ∀ k, k < 3 → parseFieldDescriptor (TX9 k).2.2.1 = some (tyX9 k) := by decide +kernel
def RX10 : String := "OperaHouse$Walk"
def TX10 : u_T := fun k => match k with
  | 0 => ("OperaHouse$Walk", "house", "LOperaHouse$House;", true)
  | 1 => ("OperaHouse$Walk", "calls", "LOperaHouse$Calls;", true)
  | 2 => ("OperaHouse$Walk", "ledger", "LOperaHouse$Ledger;", true)
  | 3 => ("OperaHouse$Walk", "bits", "[I", true)
  | 4 => ("OperaHouse$Walk", "bitsBefore", "[I", true)
  | 5 => ("OperaHouse$Walk", "own", "[I", true)
  | 6 => ("OperaHouse$Walk", "tiredness", "[I", true)
  | 7 => ("OperaHouse$Walk", "owned", "I", false)
  | _ => ("OperaHouse$Walk", "facts", "[I", true)
def tyX10 : Nat → FieldType := fun k => match k with
  | 0 => .object "OperaHouse$House"
  | 1 => .object "OperaHouse$Calls"
  | 2 => .object "OperaHouse$Ledger"
  | 3 => .array .int
  | 4 => .array .int
  | 5 => .array .int
  | 6 => .array .int
  | 7 => .int
  | _ => .array .int
theorem nmX10 : ∀ a, a < 9 → ∀ b, b < 9 → a ≠ b → (TX10 a).2.1 ≠ (TX10 b).2.1 := by decide +kernel
theorem tyX10_ok : ∀ k, k < 9 → parseFieldDescriptor (TX10 k).2.2.1 = some (tyX10 k) := by decide +kernel
def RX11 : String := "OperaHouse"
def TX11 : u_T := fun k => match k with
  | 0 => ("OperaHouse", "tape", "[I", true)
  | 1 => ("OperaHouse", "wrongList", "[I", true)
  | 2 => ("OperaHouse", "house", "LOperaHouse$House;", true)
  | 3 => ("OperaHouse", "calls", "LOperaHouse$Calls;", true)
  | 4 => ("OperaHouse", "ledger", "LOperaHouse$Ledger;", true)
  | 5 => ("OperaHouse", "wagons", "LOperaHouse$Wagons;", true)
  | 6 => ("OperaHouse", "reader", "LOperaHouse$Reader;", true)
  | 7 => ("OperaHouse", "walk", "LOperaHouse$Walk;", true)
  | 8 => ("OperaHouse", "judge", "LOperaHouse$Judge;", true)
  | 9 => ("OperaHouse", "layer", "LOperaHouse$Layer;", true)
  | 10 => ("OperaHouse", "tapeSize", "I", false)
  | 11 => ("OperaHouse", "today", "I", false)
  | 12 => ("OperaHouse", "latestFault", "I", false)
  | _ => ("OperaHouse", "wrongSize", "I", false)
def tyX11 : Nat → FieldType := fun k => match k with
  | 0 => .array .int
  | 1 => .array .int
  | 2 => .object "OperaHouse$House"
  | 3 => .object "OperaHouse$Calls"
  | 4 => .object "OperaHouse$Ledger"
  | 5 => .object "OperaHouse$Wagons"
  | 6 => .object "OperaHouse$Reader"
  | 7 => .object "OperaHouse$Walk"
  | 8 => .object "OperaHouse$Judge"
  | 9 => .object "OperaHouse$Layer"
  | 10 => .int
  | 11 => .int
  | 12 => .int
  | _ => .int
theorem nmX11 : ∀ a, a < 14 → ∀ b, b < 14 → a ≠ b → (TX11 a).2.1 ≠ (TX11 b).2.1 := by decide +kernel
theorem tyX11_ok : ∀ k, k < 14 → parseFieldDescriptor (TX11 k).2.2.1 = some (tyX11 k) := by decide +kernel
def RX12 : String := "OperaHouseModel"
def TX12 : u_T := fun k => match k with
  | 0 => ("OperaHouseModel", "thrown", "I", false)
  | 1 => ("OperaHouseModel", "tape", "[B", true)
  | 2 => ("OperaHouseModel", "length", "I", false)
  | 3 => ("OperaHouseModel", "size", "I", false)
  | 4 => ("OperaHouseModel", "p", "I", false)
  | 5 => ("OperaHouseModel", "today", "I", false)
  | 6 => ("OperaHouseModel", "tellings", "I", false)
  | 7 => ("OperaHouseModel", "hoursOf", "[I", true)
  | 8 => ("OperaHouseModel", "setOf", "[I", true)
  | 9 => ("OperaHouseModel", "need", "[I", true)
  | 10 => ("OperaHouseModel", "seats", "[I", true)
  | 11 => ("OperaHouseModel", "rolesOf", "[I", true)
  | 12 => ("OperaHouseModel", "voice", "[I", true)
  | 13 => ("OperaHouseModel", "strain", "[I", true)
  | 14 => ("OperaHouseModel", "tongue", "[I", true)
  | 15 => ("OperaHouseModel", "roleSize", "[I", true)
  | 16 => ("OperaHouseModel", "hasChorus", "[Z", true)
  | 17 => ("OperaHouseModel", "voices", "[I", true)
  | 18 => ("OperaHouseModel", "tongues", "[I", true)
  | 19 => ("OperaHouseModel", "sizeOf", "[I", true)
  | 20 => ("OperaHouseModel", "half", "[I", true)
  | 21 => ("OperaHouseModel", "operas", "I", false)
  | 22 => ("OperaHouseModel", "singers", "I", false)
  | 23 => ("OperaHouseModel", "daily", "I", false)
  | 24 => ("OperaHouseModel", "weekly", "I", false)
  | 25 => ("OperaHouseModel", "law", "[I", true)
  | 26 => ("OperaHouseModel", "leaves", "[I", true)
  | 27 => ("OperaHouseModel", "leaveFrom", "[I", true)
  | 28 => ("OperaHouseModel", "leaveTo", "[I", true)
  | 29 => ("OperaHouseModel", "fees", "[I", true)
  | 30 => ("OperaHouseModel", "feeOf", "[I", true)
  | 31 => ("OperaHouseModel", "feeFrom", "[I", true)
  | 32 => ("OperaHouseModel", "feeTo", "[I", true)
  | 33 => ("OperaHouseModel", "step", "[I", true)
  | 34 => ("OperaHouseModel", "stepSign", "[I", true)
  | 35 => ("OperaHouseModel", "stepNumber", "[I", true)
  | 36 => ("OperaHouseModel", "pile", "[I", true)
  | 37 => ("OperaHouseModel", "stepMany", "I", false)
  | 38 => ("OperaHouseModel", "pileMany", "I", false)
  | 39 => ("OperaHouseModel", "ones", "I", false)
  | 40 => ("OperaHouseModel", "token", "I", false)
  | 41 => ("OperaHouseModel", "at", "I", false)
  | 42 => ("OperaHouseModel", "span", "I", false)
  | 43 => ("OperaHouseModel", "number", "I", false)
  | 44 => ("OperaHouseModel", "fault", "I", false)
  | 45 => ("OperaHouseModel", "faultAt", "I", false)
  | 46 => ("OperaHouseModel", "told", "I", false)
  | 47 => ("OperaHouseModel", "word", "J", false)
  | 48 => ("OperaHouseModel", "learnWho", "[I", true)
  | 49 => ("OperaHouseModel", "learnRole", "[I", true)
  | 50 => ("OperaHouseModel", "learnHours", "[I", true)
  | 51 => ("OperaHouseModel", "learnDay", "[I", true)
  | 52 => ("OperaHouseModel", "illWho", "[I", true)
  | 53 => ("OperaHouseModel", "illFrom", "[I", true)
  | 54 => ("OperaHouseModel", "illTo", "[I", true)
  | 55 => ("OperaHouseModel", "illDay", "[I", true)
  | 56 => ("OperaHouseModel", "castCall", "[I", true)
  | 57 => ("OperaHouseModel", "castRole", "[I", true)
  | 58 => ("OperaHouseModel", "castWho", "[I", true)
  | 59 => ("OperaHouseModel", "castDay", "[I", true)
  | 60 => ("OperaHouseModel", "callDay", "[I", true)
  | 61 => ("OperaHouseModel", "begin", "[I", true)
  | 62 => ("OperaHouseModel", "finish", "[I", true)
  | 63 => ("OperaHouseModel", "kind", "[I", true)
  | 64 => ("OperaHouseModel", "operaOf", "[I", true)
  | 65 => ("OperaHouseModel", "halves", "[I", true)
  | 66 => ("OperaHouseModel", "castCover", "[Z", true)
  | 67 => ("OperaHouseModel", "learns", "I", false)
  | 68 => ("OperaHouseModel", "ills", "I", false)
  | 69 => ("OperaHouseModel", "casts", "I", false)
  | 70 => ("OperaHouseModel", "calls", "I", false)
  | 71 => ("OperaHouseModel", "all", "I", false)
  | 72 => ("OperaHouseModel", "cast", "[I", true)
  | 73 => ("OperaHouseModel", "cover", "[I", true)
  | 74 => ("OperaHouseModel", "before", "[I", true)
  | 75 => ("OperaHouseModel", "order", "[I", true)
  | 76 => ("OperaHouseModel", "rank", "[I", true)
  | 77 => ("OperaHouseModel", "roster", "[I", true)
  | 78 => ("OperaHouseModel", "asOf", "I", false)
  | 79 => ("OperaHouseModel", "holds", "[Z", true)
  | 80 => ("OperaHouseModel", "may", "[Z", true)
  | 81 => ("OperaHouseModel", "was", "[Z", true)
  | 82 => ("OperaHouseModel", "busy", "[Z", true)
  | 83 => ("OperaHouseModel", "badSet", "[Z", true)
  | 84 => ("OperaHouseModel", "wrongKind", "[I", true)
  | 85 => ("OperaHouseModel", "wrongCall", "[I", true)
  | 86 => ("OperaHouseModel", "wrongRole", "[I", true)
  | 87 => ("OperaHouseModel", "mark", "[Z", true)
  | 88 => ("OperaHouseModel", "wrongs", "I", false)
  | 89 => ("OperaHouseModel", "toldWrongs", "I", false)
  | 90 => ("OperaHouseModel", "toldKind", "[I", true)
  | 91 => ("OperaHouseModel", "toldCall", "[I", true)
  | 92 => ("OperaHouseModel", "toldRole", "[I", true)
  | 93 => ("OperaHouseModel", "wish", "[I", true)
  | 94 => ("OperaHouseModel", "dayOf", "[I", true)
  | 95 => ("OperaHouseModel", "laid", "[I", true)
  | 96 => ("OperaHouseModel", "laidWish", "[I", true)
  | 97 => ("OperaHouseModel", "wishes", "I", false)
  | 98 => ("OperaHouseModel", "laidMany", "I", false)
  | 99 => ("OperaHouseModel", "laidHour", "I", false)
  | _ => ("OperaHouseModel", "laidTelling", "I", false)
def tyX12 : Nat → FieldType := fun k => match k with
  | 0 => .int
  | 1 => .array .byte
  | 2 => .int
  | 3 => .int
  | 4 => .int
  | 5 => .int
  | 6 => .int
  | 7 => .array .int
  | 8 => .array .int
  | 9 => .array .int
  | 10 => .array .int
  | 11 => .array .int
  | 12 => .array .int
  | 13 => .array .int
  | 14 => .array .int
  | 15 => .array .int
  | 16 => .array .boolean
  | 17 => .array .int
  | 18 => .array .int
  | 19 => .array .int
  | 20 => .array .int
  | 21 => .int
  | 22 => .int
  | 23 => .int
  | 24 => .int
  | 25 => .array .int
  | 26 => .array .int
  | 27 => .array .int
  | 28 => .array .int
  | 29 => .array .int
  | 30 => .array .int
  | 31 => .array .int
  | 32 => .array .int
  | 33 => .array .int
  | 34 => .array .int
  | 35 => .array .int
  | 36 => .array .int
  | 37 => .int
  | 38 => .int
  | 39 => .int
  | 40 => .int
  | 41 => .int
  | 42 => .int
  | 43 => .int
  | 44 => .int
  | 45 => .int
  | 46 => .int
  | 47 => .long
  | 48 => .array .int
  | 49 => .array .int
  | 50 => .array .int
  | 51 => .array .int
  | 52 => .array .int
  | 53 => .array .int
  | 54 => .array .int
  | 55 => .array .int
  | 56 => .array .int
  | 57 => .array .int
  | 58 => .array .int
  | 59 => .array .int
  | 60 => .array .int
  | 61 => .array .int
  | 62 => .array .int
  | 63 => .array .int
  | 64 => .array .int
  | 65 => .array .int
  | 66 => .array .boolean
  | 67 => .int
  | 68 => .int
  | 69 => .int
  | 70 => .int
  | 71 => .int
  | 72 => .array .int
  | 73 => .array .int
  | 74 => .array .int
  | 75 => .array .int
  | 76 => .array .int
  | 77 => .array .int
  | 78 => .int
  | 79 => .array .boolean
  | 80 => .array .boolean
  | 81 => .array .boolean
  | 82 => .array .boolean
  | 83 => .array .boolean
  | 84 => .array .int
  | 85 => .array .int
  | 86 => .array .int
  | 87 => .array .boolean
  | 88 => .int
  | 89 => .int
  | 90 => .array .int
  | 91 => .array .int
  | 92 => .array .int
  | 93 => .array .int
  | 94 => .array .int
  | 95 => .array .int
  | 96 => .array .int
  | 97 => .int
  | 98 => .int
  | 99 => .int
  | _ => .int
theorem nmX12 : ∀ a, a < 101 → ∀ b, b < 101 → a ≠ b → (TX12 a).2.1 ≠ (TX12 b).2.1 := by decide +kernel
theorem tyX12_ok : ∀ k, k < 101 → parseFieldDescriptor (TX12 k).2.2.1 = some (tyX12 k) := by decide +kernel
abbrev vwCl : List vw_C := [(RX0, TX0, 8), (RX1, TX1, 9), (RX2, TX2, 12), (RX3, TX3, 6), (RX4, TX4, 13), (RX5, TX5, 19), (RX6, TX6, 10), (RX7, TX7, 9), (RX9, TX9, 3), (RX10, TX10, 9), (RX11, TX11, 14), (RX12, TX12, 101)]
end
section
/-! zx: this program's tables -/
def zx_Ts : List Jvm.Cond := lw_tbl.filter goodWord
def zx_chunk (c : Nat) : List Jvm.Cond := match c with
  | 0 => k2_sels lw_privs
  | 1 => tables_1_1
  | 2 => tables_1_2
  | 3 => tables_1_3
  | 4 => tables_1_4
  | 5 => tables_1_5
  | 6 => tables_1_6
  | 7 => tables_1_7
  | 8 => tables_1_8
  | 9 => tables_1_9
  | _ => []
theorem zx_chunk_ok {c : Nat} {w : Jvm.Cond} (h : w ∈ zx_chunk c) : w ∈ lw_tbl := by
  unfold zx_chunk at h
  split at h
  · exact List.mem_append_left _ h
  · exact List.mem_append_right _ (show _ ∈ tables_1 from List.mem_append_left _ h)
  · exact List.mem_append_right _ (show _ ∈ tables_1 from List.mem_append_right _ (List.mem_append_left _ h))
  · exact List.mem_append_right _ (show _ ∈ tables_1 from List.mem_append_right _ (List.mem_append_right _ (List.mem_append_left _ h)))
  · exact List.mem_append_right _ (show _ ∈ tables_1 from List.mem_append_right _ (List.mem_append_right _ (List.mem_append_right _ (List.mem_append_left _ h))))
  · exact List.mem_append_right _ (show _ ∈ tables_1 from List.mem_append_right _ (List.mem_append_right _ (List.mem_append_right _ (List.mem_append_right _ (List.mem_append_left _ h)))))
  · exact List.mem_append_right _ (show _ ∈ tables_1 from List.mem_append_right _ (List.mem_append_right _ (List.mem_append_right _ (List.mem_append_right _ (List.mem_append_right _ (List.mem_append_left _ h))))))
  · exact List.mem_append_right _ (show _ ∈ tables_1 from List.mem_append_right _ (List.mem_append_right _ (List.mem_append_right _ (List.mem_append_right _ (List.mem_append_right _ (List.mem_append_right _ (List.mem_append_left _ h)))))))
  · exact List.mem_append_right _ (show _ ∈ tables_1 from List.mem_append_right _ (List.mem_append_right _ (List.mem_append_right _ (List.mem_append_right _ (List.mem_append_right _ (List.mem_append_right _ (List.mem_append_right _ (List.mem_append_left _ h))))))))
  · exact List.mem_append_right _ (show _ ∈ tables_1 from List.mem_append_right _ (List.mem_append_right _ (List.mem_append_right _ (List.mem_append_right _ (List.mem_append_right _ (List.mem_append_right _ (List.mem_append_right _ (List.mem_append_right _ (h)))))))))
  · cases h
def zx_w (i : Nat) (w : Jvm.Cond) : Bool := decide ((zx_chunk (i / 1000))[i % 1000]? = some w) && goodWord w
theorem zx_w_ok {i : Nat} {w : Jvm.Cond} (h : zx_w i w = true) : w ∈ zx_Ts := by
  unfold zx_w at h
  rw [Bool.and_eq_true, decide_eq_true_iff] at h
  exact List.mem_filter.mpr ⟨zx_chunk_ok (List.mem_of_getElem? h.1), h.2⟩
def zx_has : List Nat → Nat → Bool
  | [], _ => false
  | q :: r, i => if q = i then true else zx_has r i
def zx_all2 {α : Type} (f : Nat → α → Bool) : List Nat → List α → Bool
  | _, [] => true
  | [], _ :: _ => false
  | i :: p, a :: r => f i a && zx_all2 f p r
theorem zx_all2_ok {α : Type} {f : Nat → α → Bool} : ∀ {p : List Nat} {r : List α} {a : α}, zx_all2 f p r = true → a ∈ r → ∃ i, f i a = true
  | _, [], _, _, h => nomatch h
  | [], _ :: _, _, h, _ => nomatch h
  | i :: p, b :: r, a, h, ha => by
    rw [zx_all2, Bool.and_eq_true] at h
    rcases List.mem_cons.mp ha with e | e
    · subst e; exact ⟨i, h.1⟩
    · exact zx_all2_ok h.2 e
def zx_sts : List (String × String × String × Nat) := [("OperaHouse$Token", "FINISH", "LOperaHouse$Token;", 0), ("OperaHouse", "NEAR", "[I", 1), ("OperaHouse", "WORTH", "[I", 2)]
def zx_Yt : zx_Y := [(1, [1, 2, 3, 0, 4, (-1), 0, (-1), (-1), 0, 4, (-1), 1, 3, (-1)]), (2, [1, 5, 25, 125])]
def zx_aos : List String := ["OperaHouse$Opera", "OperaHouse$Contract"]
def zx_dt : List (List Nat) := [[0, 3, 3, 3, 3, 3, 3, 3],
  [3, 3, 3, 3, 0, 0, 0, 0, 0],
  [0, 0, 0, 0, 3, 3, 3, 3, 3, 3, 3, 3],
  [3, 3, 3, 3, 3, 3],
  [3, 3, 3, 3, 3, 3, 3, 3, 0, 0, 3, 0, 1],
  [0, 3, 3, 3, 3, 0, 3, 3, 3, 0, 3, 3, 3, 3, 3, 3, 3, 3, 3],
  [0, 0, 0, 0, 1, 3, 3, 3, 3, 3],
  [3, 0, 0, 0, 0, 0, 3, 3, 0],
  [3, 3, 0],
  [3, 3, 3, 3, 3, 3, 3, 0, 3],
  [3, 3, 3, 3, 3, 3, 3, 3, 3, 3, 0, 0, 0, 0],
  [0, 3, 0, 0, 0, 0, 0, 3, 3, 3, 3, 3, 3, 3, 3, 3, 3, 3, 3, 3, 3, 0, 0, 0, 0, 3, 3, 3, 3, 3, 3, 3, 3, 3, 3, 3, 3, 0, 0, 0, 0, 0, 0, 0, 0, 0, 0, 2, 3, 3, 3, 3, 3, 3, 3, 3, 3, 3, 3, 3, 3, 3, 3, 3, 3, 3, 3, 0, 0, 0, 0, 0, 3, 3, 3, 3, 3, 3, 0, 3, 3, 3, 3, 3, 3, 3, 3, 3, 0, 0, 3, 3, 3, 3, 3, 3, 3, 0, 0, 0, 0]]
def zx_nw : List Jvm.Cond := [.methodLinkNest "OperaHouse$House" 44 ⟨"OperaHouse$Opera", "<init>", "()V"⟩ "OperaHouse",
  .methodLinkNest "OperaHouse" 25 ⟨"OperaHouse$Calls", "<init>", "()V"⟩ "OperaHouse",
  .methodLinkNest "OperaHouse" 32 ⟨"OperaHouse$Ledger", "<init>", "()V"⟩ "OperaHouse",
  .methodLinkNest "OperaHouse" 39 ⟨"OperaHouse$Wagons", "<init>", "()V"⟩ "OperaHouse",
  .methodLinkNest "OperaHouse$Opera" 35 ⟨"OperaHouse", "within", "(III)Z"⟩ "OperaHouse",
  .fieldLinkNest "OperaHouse$Reader" 82 "OperaHouse" "LIMIT_LEAST" "[I" "OperaHouse",
  .fieldLinkNest "OperaHouse$Reader" 85 "OperaHouse" "LIMIT_MOST" "[I" "OperaHouse",
  .methodLinkNest "OperaHouse$Reader" 162 ⟨"OperaHouse", "within", "(III)Z"⟩ "OperaHouse",
  .methodLinkNest "OperaHouse$Contract" 43 ⟨"OperaHouse", "daysBetween", "(II)I"⟩ "OperaHouse",
  .methodLinkNest "OperaHouse$Ledger" 68 ⟨"OperaHouse", "daysBetween", "(II)I"⟩ "OperaHouse",
  .fieldLinkNest "OperaHouse$Wagons" 37 "OperaHouse" "WORTH" "[I" "OperaHouse",
  .fieldLinkNest "OperaHouse$Wagons" 34 "OperaHouse" "NEAR" "[I" "OperaHouse",
  .methodLinkNest "OperaHouse$Layer" 51 ⟨"OperaHouse", "within", "(III)Z"⟩ "OperaHouse"]
def zx_PRt : zx_PR := [(⟨"OperaHouse", "<init>", "()V"⟩, prog_1_method_1_code, 1, none),
  (⟨"OperaHouse$House", "<init>", "()V"⟩, prog_4_method_1_code, 2, none),
  (⟨"OperaHouse$Contract", "<init>", "()V"⟩, prog_3_method_1_code, 1, none),
  (⟨"OperaHouse$Contract", "blank", "()V"⟩, prog_3_method_2_code, 1, none),
  (⟨"OperaHouse$Opera", "<init>", "()V"⟩, prog_8_method_1_code, 1, none),
  (⟨"OperaHouse$Calls", "<init>", "()V"⟩, prog_2_method_1_code, 1, none),
  (⟨"OperaHouse$Ledger", "<init>", "()V"⟩, prog_7_method_1_code, 1, none),
  (⟨"OperaHouse$Wagons", "<init>", "()V"⟩, prog_11_method_1_code, 1, none),
  (⟨"OperaHouse$Reader", "<init>", "([I)V"⟩, prog_9_method_1_code, 2, none),
  (⟨"OperaHouse$Walk", "<init>", "(LOperaHouse$House;LOperaHouse$Calls;LOperaHouse$Ledger;)V"⟩, prog_12_method_1_code, 4, none),
  (⟨"OperaHouse$Judge", "<init>", "(LOperaHouse$House;LOperaHouse$Calls;LOperaHouse$Ledger;LOperaHouse$Wagons;LOperaHouse$Walk;)V"⟩, prog_5_method_1_code, 6, none),
  (⟨"OperaHouse$Layer", "<init>", "(LOperaHouse$House;LOperaHouse$Calls;LOperaHouse$Ledger;LOperaHouse$Judge;)V"⟩, prog_6_method_1_code, 5, none),
  (⟨"OperaHouse", "feed", "(IIIII)I"⟩, prog_1_method_2_code, 6, Option.some Jvm.ClassFile.FieldType.int),
  (⟨"OperaHouse", "putBytes", "(I)V"⟩, prog_1_method_3_code, 3, none),
  (⟨"OperaHouse", "end", "(I)Z"⟩, prog_1_method_4_code, 2, Option.some Jvm.ClassFile.FieldType.boolean),
  (⟨"OperaHouse", "next", "(I)I"⟩, prog_1_method_6_code, 2, Option.some Jvm.ClassFile.FieldType.int),
  (⟨"OperaHouse", "opera", "(IIZI)I"⟩, prog_1_method_7_code, 7, Option.some Jvm.ClassFile.FieldType.int),
  (⟨"OperaHouse", "emptiedTape", "()I"⟩, prog_1_method_5_code, 2, Option.some Jvm.ClassFile.FieldType.int),
  (⟨"OperaHouse", "within", "(III)Z"⟩, prog_1_method_33_code, 3, Option.some Jvm.ClassFile.FieldType.boolean),
  (⟨"OperaHouse$Opera", "readTape", "([II)Z"⟩, prog_8_method_2_code, 4, Option.some Jvm.ClassFile.FieldType.boolean),
  (⟨"OperaHouse", "singer", "(III)I"⟩, prog_1_method_8_code, 5, Option.some Jvm.ClassFile.FieldType.int),
  (⟨"OperaHouse", "players", "(III)Z"⟩, prog_1_method_9_code, 4, Option.some Jvm.ClassFile.FieldType.boolean),
  (⟨"OperaHouse", "chorus", "(II)Z"⟩, prog_1_method_10_code, 3, Option.some Jvm.ClassFile.FieldType.boolean),
  (⟨"OperaHouse", "contract", "(I)I"⟩, prog_1_method_11_code, 5, Option.some Jvm.ClassFile.FieldType.int),
  (⟨"OperaHouse$House", "isSinger", "(I)Z"⟩, prog_4_method_4_code, 2, Option.some Jvm.ClassFile.FieldType.boolean),
  (⟨"OperaHouse", "fault", "()I"⟩, prog_1_method_12_code, 1, Option.some Jvm.ClassFile.FieldType.int),
  (⟨"OperaHouse", "learn", "(IIII)Z"⟩, prog_1_method_13_code, 5, Option.some Jvm.ClassFile.FieldType.boolean),
  (⟨"OperaHouse$House", "isOpera", "(I)Z"⟩, prog_4_method_2_code, 2, Option.some Jvm.ClassFile.FieldType.boolean),
  (⟨"OperaHouse", "call", "(IIIII)I"⟩, prog_1_method_14_code, 7, Option.some Jvm.ClassFile.FieldType.int),
  (⟨"OperaHouse", "cast", "(IIIZ)Z"⟩, prog_1_method_15_code, 5, Option.some Jvm.ClassFile.FieldType.boolean),
  (⟨"OperaHouse", "isSpot", "(II)Z"⟩, prog_1_method_32_code, 3, Option.some Jvm.ClassFile.FieldType.boolean),
  (⟨"OperaHouse$Calls", "has", "(I)Z"⟩, prog_2_method_2_code, 2, Option.some Jvm.ClassFile.FieldType.boolean),
  (⟨"OperaHouse", "ill", "(III)Z"⟩, prog_1_method_16_code, 4, Option.some Jvm.ClassFile.FieldType.boolean),
  (⟨"OperaHouse", "who", "(IIZI)I"⟩, prog_1_method_17_code, 6, Option.some Jvm.ClassFile.FieldType.int),
  (⟨"OperaHouse$Ledger", "know", "(I)V"⟩, prog_7_method_5_code, 3, none),
  (⟨"java/util/Arrays", "fill", "([II)V"⟩, prog_29_method_103_code, 4, none),
  (⟨"OperaHouse", "wrong", "(I)I"⟩, prog_1_method_18_code, 2, Option.some Jvm.ClassFile.FieldType.int),
  (⟨"OperaHouse$Judge", "run", "()V"⟩, prog_5_method_2_code, 3, none),
  (⟨"OperaHouse$Judge", "judgeSets", "()V"⟩, prog_5_method_5_code, 6, none),
  (⟨"OperaHouse$Wagons", "reset", "()V"⟩, prog_11_method_2_code, 2, none),
  (⟨"OperaHouse$Wagons", "reach", "(I)V"⟩, prog_11_method_3_code, 2, none),
  (⟨"OperaHouse$Wagons", "spread", "(I)V"⟩, prog_11_method_4_code, 6, none),
  (⟨"OperaHouse$Wagons", "moveAll", "(I)V"⟩, prog_11_method_5_code, 6, none),
  (⟨"OperaHouse$Wagons", "freePlace", "(I)I"⟩, prog_11_method_7_code, 3, Option.some Jvm.ClassFile.FieldType.int),
  (⟨"OperaHouse$Wagons", "placeOf", "(II)I"⟩, prog_11_method_6_code, 2, Option.some Jvm.ClassFile.FieldType.int),
  (⟨"OperaHouse$Wagons", "canShow", "(I)Z"⟩, prog_11_method_8_code, 3, Option.some Jvm.ClassFile.FieldType.boolean),
  (⟨"OperaHouse$Judge", "list", "([I)I"⟩, prog_5_method_3_code, 7, Option.some Jvm.ClassFile.FieldType.int),
  (⟨"OperaHouse", "learned", "(IIII)I"⟩, prog_1_method_20_code, 5, Option.some Jvm.ClassFile.FieldType.int),
  (⟨"OperaHouse", "tired", "(III)I"⟩, prog_1_method_21_code, 4, Option.some Jvm.ClassFile.FieldType.int),
  (⟨"OperaHouse", "fee", "(III)I"⟩, prog_1_method_22_code, 4, Option.some Jvm.ClassFile.FieldType.int),
  (⟨"OperaHouse", "pay", "(III)I"⟩, prog_1_method_23_code, 6, Option.some Jvm.ClassFile.FieldType.int),
  (⟨"OperaHouse", "moves", "(II)I"⟩, prog_1_method_24_code, 3, Option.some Jvm.ClassFile.FieldType.int),
  (⟨"OperaHouse$Wagons", "fewest", "(II)I"⟩, prog_11_method_10_code, 4, Option.some Jvm.ClassFile.FieldType.int),
  (⟨"OperaHouse", "may", "(III)Z"⟩, prog_1_method_25_code, 4, Option.some Jvm.ClassFile.FieldType.boolean),
  (⟨"OperaHouse", "harm", "(III)I"⟩, prog_1_method_26_code, 4, Option.some Jvm.ClassFile.FieldType.int),
  (⟨"OperaHouse", "instead", "(II)I"⟩, prog_1_method_27_code, 7, Option.some Jvm.ClassFile.FieldType.int),
  (⟨"OperaHouse", "lay", "(III)I"⟩, prog_1_method_28_code, 5, Option.some Jvm.ClassFile.FieldType.int),
  (⟨"OperaHouse$Layer", "forget", "()V"⟩, prog_6_method_2_code, 1, none),
  (⟨"OperaHouse$Layer", "wish", "([III)Z"⟩, prog_6_method_3_code, 5, Option.some Jvm.ClassFile.FieldType.boolean),
  (⟨"OperaHouse", "laid", "(I)I"⟩, prog_1_method_29_code, 2, Option.some Jvm.ClassFile.FieldType.int),
  (⟨"OperaHouse", "keep", "()I"⟩, prog_1_method_30_code, 1, Option.some Jvm.ClassFile.FieldType.int),
  (⟨"OperaHouse", "count", "(I)I"⟩, prog_1_method_31_code, 2, Option.some Jvm.ClassFile.FieldType.int),
  (⟨"OperaHouseModel", "<init>", "()V"⟩, prog_14_method_1_code, 1, none),
  (⟨"OperaHouseModel", "thrown", "()I"⟩, prog_14_method_2_code, 1, Option.some Jvm.ClassFile.FieldType.int),
  (⟨"OperaHouseModel", "feed", "(IIIII)I"⟩, prog_14_method_4_code, 6, Option.some Jvm.ClassFile.FieldType.int),
  (⟨"OperaHouseModel", "four", "(I)V"⟩, prog_14_method_5_code, 3, none),
  (⟨"OperaHouseModel", "end", "(I)Z"⟩, prog_14_method_6_code, 2, Option.some Jvm.ClassFile.FieldType.boolean),
  (⟨"OperaHouseModel", "next", "(I)I"⟩, prog_14_method_9_code, 2, Option.some Jvm.ClassFile.FieldType.int),
  (⟨"OperaHouseModel", "isIn", "(III)Z"⟩, prog_14_method_8_code, 3, Option.some Jvm.ClassFile.FieldType.boolean),
  (⟨"OperaHouseModel", "opera", "(IIZI)I"⟩, prog_14_method_10_code, 8, Option.some Jvm.ClassFile.FieldType.int),
  (⟨"OperaHouseModel", "taken", "()V"⟩, prog_14_method_7_code, 1, none),
  (⟨"OperaHouseModel", "singer", "(III)I"⟩, prog_14_method_13_code, 4, Option.some Jvm.ClassFile.FieldType.int),
  (⟨"OperaHouseModel", "plain", "(I)V"⟩, prog_14_method_18_code, 2, none),
  (⟨"OperaHouseModel", "players", "(III)Z"⟩, prog_14_method_14_code, 4, Option.some Jvm.ClassFile.FieldType.boolean),
  (⟨"OperaHouseModel", "chorus", "(II)Z"⟩, prog_14_method_15_code, 3, Option.some Jvm.ClassFile.FieldType.boolean),
  (⟨"OperaHouseModel", "contract", "(I)I"⟩, prog_14_method_27_code, 4, Option.some Jvm.ClassFile.FieldType.int),
  (⟨"OperaHouseModel", "isSinger", "(I)Z"⟩, prog_14_method_12_code, 2, Option.some Jvm.ClassFile.FieldType.boolean),
  (⟨"OperaHouseModel", "fault", "()I"⟩, prog_14_method_28_code, 1, Option.some Jvm.ClassFile.FieldType.int),
  (⟨"OperaHouseModel", "learn", "(IIII)Z"⟩, prog_14_method_42_code, 5, Option.some Jvm.ClassFile.FieldType.boolean),
  (⟨"OperaHouseModel", "call", "(IIIII)I"⟩, prog_14_method_45_code, 6, Option.some Jvm.ClassFile.FieldType.int),
  (⟨"OperaHouseModel", "cast", "(IIIZ)Z"⟩, prog_14_method_48_code, 5, Option.some Jvm.ClassFile.FieldType.boolean),
  (⟨"OperaHouseModel", "isCallRole", "(II)Z"⟩, prog_14_method_46_code, 3, Option.some Jvm.ClassFile.FieldType.boolean),
  (⟨"OperaHouseModel", "ill", "(III)Z"⟩, prog_14_method_49_code, 4, Option.some Jvm.ClassFile.FieldType.boolean),
  (⟨"OperaHouseModel", "who", "(IIZI)I"⟩, prog_14_method_62_code, 5, Option.some Jvm.ClassFile.FieldType.int),
  (⟨"OperaHouseModel", "load", "(I)V"⟩, prog_14_method_50_code, 4, none),
  (⟨"OperaHouseModel", "sort", "()V"⟩, prog_14_method_51_code, 3, none),
  (⟨"OperaHouseModel", "learned", "(IIII)I"⟩, prog_14_method_63_code, 5, Option.some Jvm.ClassFile.FieldType.int),
  (⟨"OperaHouseModel", "tired", "(III)I"⟩, prog_14_method_64_code, 4, Option.some Jvm.ClassFile.FieldType.int),
  (⟨"OperaHouseModel", "fee", "(III)I"⟩, prog_14_method_69_code, 4, Option.some Jvm.ClassFile.FieldType.int),
  (⟨"OperaHouseModel", "pay", "(III)I"⟩, prog_14_method_70_code, 6, Option.some Jvm.ClassFile.FieldType.int),
  (⟨"OperaHouseModel", "moves", "(II)I"⟩, prog_14_method_77_code, 4, Option.some Jvm.ClassFile.FieldType.int),
  (⟨"OperaHouseModel", "atFirst", "()V"⟩, prog_14_method_74_code, 2, none),
  (⟨"OperaHouseModel", "canStand", "(I)Z"⟩, prog_14_method_76_code, 3, Option.some Jvm.ClassFile.FieldType.boolean),
  (⟨"OperaHouseModel", "placeOf", "(II)I"⟩, prog_14_method_71_code, 2, Option.some Jvm.ClassFile.FieldType.int),
  (⟨"OperaHouseModel", "goOn", "()Z"⟩, prog_14_method_75_code, 5, Option.some Jvm.ClassFile.FieldType.boolean),
  (⟨"OperaHouseModel", "areNext", "(II)Z"⟩, prog_14_method_73_code, 4, Option.some Jvm.ClassFile.FieldType.boolean),
  (⟨"OperaHouseModel", "moved", "(III)I"⟩, prog_14_method_72_code, 3, Option.some Jvm.ClassFile.FieldType.int),
  (⟨"OperaHouseModel", "wrong", "(I)I"⟩, prog_14_method_93_code, 3, Option.some Jvm.ClassFile.FieldType.int),
  (⟨"OperaHouseModel", "judge", "()V"⟩, prog_14_method_91_code, 6, none),
  (⟨"OperaHouseModel", "roll", "()V"⟩, prog_14_method_78_code, 7, none),
  (⟨"OperaHouseModel", "told", "(II)I"⟩, prog_14_method_94_code, 3, Option.some Jvm.ClassFile.FieldType.int),
  (⟨"OperaHouseModel", "throwsIf", "(Z)Z"⟩, prog_14_method_3_code, 2, Option.some Jvm.ClassFile.FieldType.boolean),
  (⟨"OperaHouseModel", "may", "(III)Z"⟩, prog_14_method_100_code, 4, Option.some Jvm.ClassFile.FieldType.boolean),
  (⟨"OperaHouseModel", "harm", "(III)I"⟩, prog_14_method_101_code, 4, Option.some Jvm.ClassFile.FieldType.int),
  (⟨"OperaHouseModel", "instead", "(II)I"⟩, prog_14_method_102_code, 7, Option.some Jvm.ClassFile.FieldType.int),
  (⟨"OperaHouseModel", "lay", "(III)I"⟩, prog_14_method_105_code, 8, Option.some Jvm.ClassFile.FieldType.int),
  (⟨"OperaHouseModel", "laid", "(I)I"⟩, prog_14_method_106_code, 2, Option.some Jvm.ClassFile.FieldType.int),
  (⟨"OperaHouseModel", "keep", "()I"⟩, prog_14_method_107_code, 5, Option.some Jvm.ClassFile.FieldType.int),
  (⟨"OperaHouseModel", "count", "(I)I"⟩, prog_14_method_108_code, 2, Option.some Jvm.ClassFile.FieldType.int)]
def zx_rmt : List (Nat × Nat) := [(217, 16903), (166, 2821), (4, 101), (0, 0), (5, 36), (7, 420), (16, 6480), (2, 745), (5, 110), (5, 1090), (1, 60), (5, 558), (0, 0), (0, 0), (0, 0), (0, 0), (0, 0), (0, 0), (0, 0), (0, 0), (0, 0), (0, 0), (0, 0), (0, 0), (0, 0), (0, 0), (0, 0), (0, 0), (0, 0), (0, 0), (0, 0), (0, 0), (0, 0), (0, 0), (0, 0), (0, 0), (0, 0), (0, 0), (0, 0), (0, 0), (0, 0), (0, 0), (0, 0), (0, 0), (0, 0), (0, 0), (0, 0), (0, 0), (0, 0), (0, 0), (0, 0), (0, 0), (0, 0), (0, 0), (0, 0), (0, 0), (0, 0), (0, 0), (0, 0), (0, 0), (0, 0), (0, 0), (68, 56070), (0, 0), (0, 0), (0, 0), (0, 0), (0, 0), (0, 0), (0, 0), (0, 0), (0, 0), (0, 0), (0, 0), (0, 0), (0, 0), (0, 0), (0, 0), (0, 0), (0, 0), (0, 0), (0, 0), (0, 0), (0, 0), (0, 0), (0, 0), (0, 0), (0, 0), (0, 0), (0, 0), (0, 0), (0, 0), (0, 0), (0, 0), (0, 0), (0, 0), (0, 0), (0, 0), (0, 0), (0, 0), (0, 0), (0, 0), (0, 0), (0, 0), (0, 0), (0, 0), (0, 0), (0, 0), (0, 0)]
-- OperaHouse
def zx_oc0 : String := "OperaHouse"
def zx_Fc0 : List (Nat × (Nat × Nat × Nat × Bool)) := [(9, 10, 0, 3, true), (13, 10, 1, 3, true), (19, 10, 2, 3, true), (26, 10, 3, 3, true), (33, 10, 4, 3, true), (40, 10, 5, 3, true), (49, 10, 6, 3, true), (58, 10, 7, 3, true), (67, 10, 8, 3, true), (76, 10, 9, 3, true), (80, 2, 2, 0, false), (84, 2, 3, 0, false), (87, 10, 10, 0, false), (94, 4, 12, 1, false), (98, 10, 11, 0, false), (105, 2, 0, 0, false), (112, 2, 5, 3, true), (122, 6, 0, 0, false), (125, 6, 1, 0, false), (128, 6, 4, 1, false), (131, 6, 2, 0, false), (134, 2, 1, 0, false), (137, 2, 7, 3, true), (140, 2, 8, 3, true), (143, 2, 9, 3, true), (146, 2, 10, 3, true), (149, 2, 11, 3, true), (156, 2, 6, 3, true), (160, 2, 4, 3, false), (168, 7, 8, 0, false), (171, 10, 12, 0, false), (178, 5, 9, 0, false), (185, 0, 0, 0, false), (202, 0, 1, 3, true), (205, 5, 0, 0, false), (212, 5, 5, 0, false), (222, 5, 15, 3, true), (225, 5, 13, 3, true), (235, 10, 13, 0, false), (277, 4, 11, 0, false), (280, 4, 10, 3, true), (287, 0, 5, 3, true)]
def zx_pFc0 : List Nat := [3004, 3005, 3006, 3007, 3008, 3009, 3010, 3011, 3012, 3013, 1142, 1144, 3014, 2216, 3015, 1138, 1152, 1095, 1097, 1104, 1098, 1141, 1157, 1159, 1161, 1163, 1165, 1155, 1147, 2112, 3016, 2019, 1201, 1205, 2008, 2014, 2032, 2027, 3017, 2214, 2212, 1218]
def zx_Fic0 : List (Nat × (Nat × Nat × Nat × Bool)) := [(9, 10, 0, 3, true), (13, 10, 1, 3, true), (19, 10, 2, 3, true), (26, 10, 3, 3, true), (33, 10, 4, 3, true), (40, 10, 5, 3, true), (49, 10, 6, 3, true), (58, 10, 7, 3, true), (67, 10, 8, 3, true), (76, 10, 9, 3, true), (80, 2, 2, 0, false), (84, 2, 3, 0, false), (87, 10, 10, 0, false), (94, 4, 12, 1, false), (98, 10, 11, 0, false), (105, 2, 0, 0, false), (122, 6, 0, 0, false), (125, 6, 1, 0, false), (128, 6, 4, 1, false), (131, 6, 2, 0, false), (134, 2, 1, 0, false), (160, 2, 4, 3, false), (168, 7, 8, 0, false), (171, 10, 12, 0, false), (178, 5, 9, 0, false), (185, 0, 0, 0, false), (205, 5, 0, 0, false), (212, 5, 5, 0, false), (235, 10, 13, 0, false), (277, 4, 11, 0, false)]
def zx_pFic0 : List Nat := [3004, 3005, 3006, 3007, 3008, 3009, 3010, 3011, 3012, 3013, 1142, 1144, 3014, 2216, 3015, 1138, 1095, 1097, 1104, 1098, 1141, 1147, 2112, 3016, 2019, 1201, 2008, 2014, 3017, 2214]
def zx_Sc0 : List (Nat × Nat) := []
def zx_pSc0 : List Nat := []
def zx_Cc0 : List (Nat × Nat) := [(16, 2), (23, 0), (30, 5), (37, 8), (44, 7), (53, 9), (62, 3), (71, 4)]
def zx_pCc0 : List (List Nat) := [[1034, 1035, 1002], [1191, 1192, 1005], [2001, 2002, 1006], [2077, 2078, 1007], [2093, 2094, 1008], [2132, 2133, 1011], [2168, 2169, 1012], [2195, 2196, 1013]]
def zx_Ic0 : List (Nat × Int) := []
def zx_pIc0 : List Nat := []
def zx_Lc0 : List Nat := []
def zx_Lvc0 : List (Nat × Int64) := []
def zx_pLc0 : List Nat := []
def zx_Kc0 : List (Nat × (Nat × Nat × Nat × Nat)) := [(1, 5, 0, 1, 0), (18, 2, 1, 1, 0), (25, 4, 5, 1, 0), (32, 4, 6, 1, 0), (39, 4, 7, 1, 0), (46, 2, 8, 2, 0), (55, 2, 9, 4, 0), (64, 2, 10, 6, 0), (73, 2, 11, 5, 0), (90, 0, 13, 2, 10), (101, 0, 17, 1, 10), (108, 1, 18, 3, 0), (116, 0, 19, 3, 6), (152, 0, 24, 2, 2), (188, 0, 27, 2, 2), (199, 0, 30, 3, 10), (219, 0, 34, 2, 5), (228, 0, 37, 1, 3), (231, 0, 46, 2, 3), (249, 0, 31, 2, 0), (258, 0, 52, 3, 8), (267, 0, 57, 1, 4), (270, 0, 58, 4, 4)]
def zx_pKc0 : List (List Nat) := [[1031, 1032, 1033], [1038, 1002, 1036, 1037], [1195, 1005, 1194], [2005, 1006, 2004], [2081, 1007, 2080], [2097, 1008, 2095, 2096], [2136, 1011, 2134, 2135], [2172, 1012, 2170, 2171], [2199, 1013, 2197, 2198], [3054, 1001, 3051, 3053, 0], [3070, 1001, 3067, 3069, 1], [3073, 1001, 3071, 3072], [3077, 1004, 3074, 3075, 3076], [3102, 1002, 3099, 3100, 3101], [4041, 1002, 4050, 4039, 4040], [4066, 1001, 4063, 4065, 15], [4091, 1006, 4088, 4089, 4090], [4106, 1012, 4103, 4104, 4105], [5012, 1012, 5009, 5010, 5011], [4070, 1005, 4067, 4068, 4069], [5077, 1007, 5074, 5075, 5076], [5116, 1013, 5113, 5114, 5115], [5120, 1013, 5117, 5118, 5119]]
-- OperaHouse$House
def zx_oc1 : String := "OperaHouse$House"
def zx_Fc1 : List (Nat × (Nat × Nat × Nat × Bool)) := [(12, 2, 4, 3, false), (20, 2, 5, 3, true), (24, 2, 6, 3, true), (28, 2, 7, 3, true), (32, 2, 8, 3, true), (35, 2, 9, 3, true), (38, 2, 10, 3, true), (41, 2, 11, 3, true), (45, 2, 0, 0, false), (53, 6, 3, 0, false), (56, 2, 1, 0, false), (59, 6, 0, 0, false), (62, 6, 9, 3, true), (71, 6, 6, 3, true), (74, 6, 8, 3, true), (81, 6, 5, 3, true)]
def zx_pFc1 : List Nat := [1146, 1148, 1153, 1156, 1158, 1160, 1162, 1164, 1137, 1101, 1140, 1094, 1115, 1109, 1113, 1107]
def zx_Fic1 : List (Nat × (Nat × Nat × Nat × Bool)) := [(12, 2, 4, 3, false), (20, 2, 5, 3, true), (24, 2, 6, 3, true), (28, 2, 7, 3, true), (32, 2, 8, 3, true), (35, 2, 9, 3, true), (38, 2, 10, 3, true), (41, 2, 11, 3, true), (45, 2, 0, 0, false), (53, 6, 3, 0, false), (56, 2, 1, 0, false), (59, 6, 0, 0, false)]
def zx_pFic1 : List Nat := [1146, 1148, 1153, 1156, 1158, 1160, 1162, 1164, 1137, 1101, 1140, 1094]
def zx_Sc1 : List (Nat × Nat) := []
def zx_pSc1 : List Nat := []
def zx_Cc1 : List (Nat × Nat) := [(9, 1), (18, 6), (65545, 1), (65554, 6)]
def zx_pCc1 : List (List Nat) := [[1040, 1041, 1003], [1085, 1088, 1004], [1040, 0, 0], [1085, 0, 0]]
def zx_Ic1 : List (Nat × Int) := []
def zx_pIc1 : List Nat := []
def zx_Lc1 : List Nat := []
def zx_Lvc1 : List (Nat × Int64) := []
def zx_pLc1 : List Nat := []
def zx_Kc1 : List (Nat × (Nat × Nat × Nat × Nat)) := [(3, 5, 0, 1, 0), (11, 2, 2, 1, 0), (44, 4, 4, 1, 0), (49, 0, 27, 2, 2)]
def zx_pKc1 : List (List Nat) := [[1039, 1032, 1033], [1044, 1003, 1042, 1043], [1091, 1004, 1090], [4041, 1002, 4038, 4039, 4040]]
-- OperaHouse$Contract
def zx_oc2 : String := "OperaHouse$Contract"
def zx_Fc2 : List (Nat × (Nat × Nat × Nat × Bool)) := [(9, 1, 0, 3, true), (15, 1, 1, 3, true), (18, 1, 2, 3, true), (21, 1, 3, 3, true), (27, 1, 4, 0, false), (31, 1, 5, 0, false), (34, 1, 6, 0, false), (37, 1, 7, 0, false), (40, 1, 8, 0, false)]
def zx_pFc2 : List Nat := [1050, 1053, 1054, 1055, 1056, 1058, 1060, 1062, 1064]
def zx_Fic2 : List (Nat × (Nat × Nat × Nat × Bool)) := [(9, 1, 0, 3, true), (15, 1, 1, 3, true), (18, 1, 2, 3, true), (21, 1, 3, 3, true), (27, 1, 4, 0, false), (31, 1, 5, 0, false), (34, 1, 6, 0, false), (37, 1, 7, 0, false), (40, 1, 8, 0, false)]
def zx_pFic2 : List Nat := [1050, 1053, 1054, 1055, 1056, 1058, 1060, 1062, 1064]
def zx_Sc2 : List (Nat × Nat) := []
def zx_pSc2 : List Nat := []
def zx_Cc2 : List (Nat × Nat) := []
def zx_pCc2 : List (List Nat) := []
def zx_Ic2 : List (Nat × Int) := []
def zx_pIc2 : List Nat := []
def zx_Lc2 : List Nat := [55]
def zx_Lvc2 : List (Nat × Int64) := [(55, -2)]
def zx_pLc2 : List Nat := [5058]
def zx_Kc2 : List (Nat × (Nat × Nat × Nat × Nat)) := [(3, 5, 0, 1, 0), (24, 0, 3, 1, 1)]
def zx_pKc2 : List (List Nat) := [[1045, 1032, 1033], [1049, 1003, 1046, 1047, 1048]]
-- OperaHouse$Opera
def zx_oc3 : String := "OperaHouse$Opera"
def zx_Fc3 : List (Nat × (Nat × Nat × Nat × Bool)) := [(9, 6, 5, 3, true), (15, 6, 6, 3, true), (18, 6, 7, 3, true), (21, 6, 8, 3, true), (24, 6, 9, 3, true), (27, 6, 3, 0, false)]
def zx_pFc3 : List Nat := [1106, 1108, 1110, 1112, 1114, 1100]
def zx_Fic3 : List (Nat × (Nat × Nat × Nat × Bool)) := [(9, 6, 5, 3, true), (15, 6, 6, 3, true), (18, 6, 7, 3, true), (21, 6, 8, 3, true), (24, 6, 9, 3, true), (27, 6, 3, 0, false)]
def zx_pFic3 : List Nat := [1106, 1108, 1110, 1112, 1114, 1100]
def zx_Sc3 : List (Nat × Nat) := []
def zx_pSc3 : List Nat := []
def zx_Cc3 : List (Nat × Nat) := []
def zx_pCc3 : List (List Nat) := []
def zx_Ic3 : List (Nat × Int) := []
def zx_pIc3 : List Nat := []
def zx_Lc3 : List Nat := []
def zx_Lvc3 : List (Nat × Int64) := []
def zx_pLc3 : List Nat := []
def zx_Kc3 : List (Nat × (Nat × Nat × Nat × Nat)) := [(3, 5, 0, 1, 0), (35, 3, 18, 3, 0)]
def zx_pKc3 : List (List Nat) := [[1092, 1032, 1033], [3073, 1001, 3072]]
-- OperaHouse$Calls
def zx_oc4 : String := "OperaHouse$Calls"
def zx_Fc4 : List (Nat × (Nat × Nat × Nat × Bool)) := [(9, 0, 1, 3, true), (15, 0, 2, 3, true), (18, 0, 3, 3, true), (21, 0, 4, 3, true), (24, 0, 5, 3, true), (27, 0, 6, 3, true), (30, 0, 7, 3, true), (33, 0, 0, 0, false)]
def zx_pFc4 : List Nat := [1202, 1206, 1209, 1212, 1215, 1219, 1221, 1197]
def zx_Fic4 : List (Nat × (Nat × Nat × Nat × Bool)) := [(9, 0, 1, 3, true), (15, 0, 2, 3, true), (18, 0, 3, 3, true), (21, 0, 4, 3, true), (24, 0, 5, 3, true), (27, 0, 6, 3, true), (30, 0, 7, 3, true), (33, 0, 0, 0, false)]
def zx_pFic4 : List Nat := [1202, 1206, 1209, 1212, 1215, 1219, 1221, 1197]
def zx_Sc4 : List (Nat × Nat) := []
def zx_pSc4 : List Nat := []
def zx_Cc4 : List (Nat × Nat) := []
def zx_pCc4 : List (List Nat) := []
def zx_Ic4 : List (Nat × Int) := []
def zx_pIc4 : List Nat := []
def zx_Lc4 : List Nat := []
def zx_Lvc4 : List (Nat × Int64) := []
def zx_pLc4 : List Nat := []
def zx_Kc4 : List (Nat × (Nat × Nat × Nat × Nat)) := [(3, 5, 0, 1, 0)]
def zx_pKc4 : List (List Nat) := [[1196, 1032, 1033]]
-- OperaHouse$Ledger
def zx_oc5 : String := "OperaHouse$Ledger"
def zx_Fc5 : List (Nat × (Nat × Nat × Nat × Bool)) := [(9, 5, 1, 3, true), (15, 5, 2, 3, true), (18, 5, 3, 3, true), (21, 5, 4, 3, true), (25, 5, 6, 3, true), (28, 5, 7, 3, true), (31, 5, 8, 3, true), (34, 5, 10, 3, true), (37, 5, 11, 3, true), (40, 5, 12, 3, true), (43, 5, 13, 3, true), (46, 5, 14, 3, true), (49, 5, 15, 3, true), (52, 5, 16, 3, true), (55, 5, 17, 3, true), (58, 5, 18, 3, true), (61, 5, 0, 0, false), (65, 5, 5, 0, false), (72, 5, 9, 0, false)]
def zx_pFc5 : List Nat := [2009, 2010, 2011, 2012, 2015, 2016, 2017, 2020, 2021, 2022, 2023, 2028, 2030, 2033, 2034, 2035, 2007, 2013, 2018]
def zx_Fic5 : List (Nat × (Nat × Nat × Nat × Bool)) := [(9, 5, 1, 3, true), (15, 5, 2, 3, true), (18, 5, 3, 3, true), (21, 5, 4, 3, true), (25, 5, 6, 3, true), (28, 5, 7, 3, true), (31, 5, 8, 3, true), (34, 5, 10, 3, true), (37, 5, 11, 3, true), (40, 5, 12, 3, true), (43, 5, 13, 3, true), (46, 5, 14, 3, true), (49, 5, 15, 3, true), (52, 5, 16, 3, true), (55, 5, 17, 3, true), (58, 5, 18, 3, true), (61, 5, 0, 0, false), (65, 5, 5, 0, false), (72, 5, 9, 0, false)]
def zx_pFic5 : List Nat := [2009, 2010, 2011, 2012, 2015, 2016, 2017, 2020, 2021, 2022, 2023, 2028, 2030, 2033, 2034, 2035, 2007, 2013, 2018]
def zx_Sc5 : List (Nat × Nat) := []
def zx_pSc5 : List Nat := []
def zx_Cc5 : List (Nat × Nat) := []
def zx_pCc5 : List (List Nat) := []
def zx_Ic5 : List (Nat × Int) := []
def zx_pIc5 : List Nat := []
def zx_Lc5 : List Nat := []
def zx_Lvc5 : List (Nat × Int64) := []
def zx_pLc5 : List Nat := []
def zx_Kc5 : List (Nat × (Nat × Nat × Nat × Nat)) := [(3, 5, 0, 1, 0), (75, 1, 35, 2, 0)]
def zx_pKc5 : List (List Nat) := [[2006, 1032, 1033], [4094, 1019, 4092, 4093]]
-- OperaHouse$Wagons
def zx_oc6 : String := "OperaHouse$Wagons"
def zx_Fc6 : List (Nat × (Nat × Nat × Nat × Bool)) := [(9, 8, 0, 3, true), (15, 8, 1, 3, true), (19, 8, 2, 0, false)]
def zx_pFc6 : List Nat := [2083, 2084, 2085]
def zx_Fic6 : List (Nat × (Nat × Nat × Nat × Bool)) := [(9, 8, 0, 3, true), (15, 8, 1, 3, true), (19, 8, 2, 0, false)]
def zx_pFic6 : List Nat := [2083, 2084, 2085]
def zx_Sc6 : List (Nat × Nat) := [(34, 1), (37, 2)]
def zx_pSc6 : List Nat := [0, 0]
def zx_Cc6 : List (Nat × Nat) := []
def zx_pCc6 : List (List Nat) := []
def zx_Ic6 : List (Nat × Int) := []
def zx_pIc6 : List Nat := []
def zx_Lc6 : List Nat := []
def zx_Lvc6 : List (Nat × Int64) := []
def zx_pLc6 : List Nat := []
def zx_Kc6 : List (Nat × (Nat × Nat × Nat × Nat)) := [(3, 5, 0, 1, 0), (23, 0, 40, 2, 8), (27, 0, 42, 2, 8), (30, 1, 43, 1, 0), (40, 1, 44, 2, 0), (44, 0, 39, 1, 8), (47, 0, 45, 2, 8), (51, 0, 41, 2, 8)]
def zx_pKc6 : List (List Nat) := [[2082, 1032, 1033], [4170, 1007, 4167, 4169, 24], [4181, 1007, 4178, 4180, 25], [4184, 1007, 4182, 4183], [4189, 1007, 4187, 4188], [4166, 1007, 5078, 4164, 4165], [4195, 1007, 5079, 4193, 4194], [4177, 1007, 5080, 4175, 4176]]
-- OperaHouse$Reader
def zx_oc7 : String := "OperaHouse$Reader"
def zx_Fc7 : List (Nat × (Nat × Nat × Nat × Bool)) := []
def zx_pFc7 : List Nat := []
def zx_Fic7 : List (Nat × (Nat × Nat × Nat × Bool)) := [(15, 7, 6, 3, false), (23, 7, 7, 3, false), (27, 7, 0, 3, true), (31, 7, 1, 0, false), (35, 7, 2, 0, false), (38, 7, 5, 0, false), (41, 7, 8, 0, false), (76, 7, 3, 0, false), (79, 1, 4, 0, false), (95, 7, 4, 0, false), (105, 1, 5, 0, false), (115, 1, 7, 0, false)]
def zx_pFic7 : List Nat := [2109, 2110, 2103, 2104, 2105, 2108, 2111, 2106, 1057, 2107, 1059, 1063]
def zx_Sc7 : List (Nat × Nat) := [(9, 0)]
def zx_pSc7 : List Nat := [2099]
def zx_Cc7 : List (Nat × Nat) := [(20, 1)]
def zx_pCc7 : List (List Nat) := [[2101, 1041, 1003]]
def zx_Ic7 : List (Nat × Int) := []
def zx_pIc7 : List Nat := []
def zx_Lc7 : List Nat := []
def zx_Lvc7 : List (Nat × Int64) := []
def zx_pLc7 : List Nat := []
def zx_Kc7 : List (Nat × (Nat × Nat × Nat × Nat)) := [(3, 5, 0, 1, 0), (22, 2, 2, 1, 0), (44, 0, 3, 1, 1), (162, 3, 18, 3, 0)]
def zx_pKc7 : List (List Nat) := [[2098, 1032, 1033], [1044, 1003, 2102, 1043], [1049, 1003, 3107, 1047, 1048], [3073, 1001, 3072]]
-- OperaHouse$Walk
def zx_oc8 : String := "OperaHouse$Walk"
def zx_Fc8 : List (Nat × (Nat × Nat × Nat × Bool)) := []
def zx_pFc8 : List Nat := []
def zx_Fic8 : List (Nat × (Nat × Nat × Nat × Bool)) := [(9, 9, 3, 3, true), (15, 9, 4, 3, true), (18, 9, 5, 3, true), (21, 9, 6, 3, true), (24, 9, 8, 3, true), (27, 9, 0, 3, true), (31, 9, 1, 3, true), (35, 9, 2, 3, true), (49, 0, 0, 0, false), (89, 6, 3, 0, false), (137, 9, 7, 0, false), (144, 1, 6, 0, false), (166, 6, 2, 0, false)]
def zx_pFic8 : List Nat := [2141, 2144, 2145, 2146, 2148, 2138, 2139, 2140, 1199, 1102, 2147, 1061, 1099]
def zx_Sc8 : List (Nat × Nat) := []
def zx_pSc8 : List Nat := []
def zx_Cc8 : List (Nat × Nat) := []
def zx_pCc8 : List (List Nat) := []
def zx_Ic8 : List (Nat × Int) := [(157, 32768), (187, 64768)]
def zx_pIc8 : List Nat := [4225, 5094]
def zx_Lc8 : List Nat := []
def zx_Lvc8 : List (Nat × Int64) := []
def zx_pLc8 : List Nat := []
def zx_Kc8 : List (Nat × (Nat × Nat × Nat × Nat)) := [(3, 5, 0, 1, 0), (107, 1, 35, 2, 0)]
def zx_pKc8 : List (List Nat) := [[2137, 1032, 1033], [4094, 1019, 5038, 4093]]
-- OperaHouse$Judge
def zx_oc9 : String := "OperaHouse$Judge"
def zx_Fc9 : List (Nat × (Nat × Nat × Nat × Bool)) := [(9, 3, 5, 3, true), (15, 3, 0, 3, true), (19, 3, 1, 3, true), (23, 3, 2, 3, true), (27, 3, 3, 3, true), (31, 3, 4, 3, true), (41, 9, 3, 3, true), (44, 0, 0, 0, false), (50, 0, 7, 3, true), (72, 2, 1, 0, false), (80, 0, 4, 3, true), (96, 0, 2, 3, true), (105, 0, 3, 3, true), (111, 2, 5, 3, true), (115, 0, 5, 3, true), (117, 6, 1, 0, false), (135, 0, 6, 3, true), (144, 0, 1, 3, true), (154, 2, 2, 0, false), (157, 2, 3, 0, false), (160, 6, 4, 1, false), (164, 6, 3, 0, false), (167, 5, 13, 3, true)]
def zx_pFc9 : List Nat := [2180, 2174, 2175, 2176, 2177, 2178, 2142, 1198, 1222, 1139, 1214, 1208, 1211, 1151, 1217, 1096, 1220, 1204, 1143, 1145, 1105, 1103, 2026]
def zx_Fic9 : List (Nat × (Nat × Nat × Nat × Bool)) := [(9, 3, 5, 3, true), (15, 3, 0, 3, true), (19, 3, 1, 3, true), (23, 3, 2, 3, true), (27, 3, 3, 3, true), (31, 3, 4, 3, true), (44, 0, 0, 0, false), (72, 2, 1, 0, false), (117, 6, 1, 0, false), (154, 2, 2, 0, false), (157, 2, 3, 0, false), (160, 6, 4, 1, false), (164, 6, 3, 0, false)]
def zx_pFic9 : List Nat := [2180, 2174, 2175, 2176, 2177, 2178, 1198, 1139, 1096, 1143, 1145, 1105, 1103]
def zx_Sc9 : List (Nat × Nat) := []
def zx_pSc9 : List Nat := []
def zx_Cc9 : List (Nat × Nat) := []
def zx_pCc9 : List (List Nat) := []
def zx_Ic9 : List (Nat × Int) := []
def zx_pIc9 : List Nat := []
def zx_Lc9 : List Nat := []
def zx_Lvc9 : List (Nat × Int64) := []
def zx_pLc9 : List Nat := []
def zx_Kc9 : List (Nat × (Nat × Nat × Nat × Nat)) := [(3, 5, 0, 1, 0), (35, 1, 35, 2, 0), (69, 0, 38, 1, 3), (91, 0, 39, 1, 8), (108, 0, 41, 2, 8), (122, 0, 45, 2, 8)]
def zx_pKc9 : List (List Nat) := [[2173, 1032, 1033], [4094, 1019, 4107, 4093], [4162, 1012, 4159, 4161, 23], [4166, 1007, 4163, 4164, 4165], [4177, 1007, 4174, 4175, 4176], [4195, 1007, 4192, 4193, 4194]]
-- OperaHouse$Layer
def zx_oc10 : String := "OperaHouse$Layer"
def zx_Fc10 : List (Nat × (Nat × Nat × Nat × Bool)) := [(9, 4, 4, 3, true), (15, 4, 5, 3, true), (18, 4, 6, 3, true), (21, 4, 7, 3, true), (24, 4, 10, 3, true), (27, 4, 0, 3, true), (31, 4, 1, 3, true), (35, 4, 2, 3, true), (39, 4, 3, 3, true), (43, 4, 11, 0, false), (47, 4, 12, 1, false), (55, 0, 0, 0, false), (66, 2, 5, 3, true), (70, 6, 0, 0, false), (79, 4, 8, 0, false), (82, 4, 9, 0, false), (90, 3, 5, 3, true), (99, 3, 4, 3, true), (103, 9, 3, 3, true), (139, 5, 13, 3, true)]
def zx_pFc10 : List Nat := [2205, 2206, 2207, 2208, 2211, 2201, 2202, 2203, 2204, 2213, 2215, 1200, 1149, 1093, 2209, 2210, 2181, 2179, 2143, 2024]
def zx_Fic10 : List (Nat × (Nat × Nat × Nat × Bool)) := [(9, 4, 4, 3, true), (15, 4, 5, 3, true), (18, 4, 6, 3, true), (21, 4, 7, 3, true), (24, 4, 10, 3, true), (27, 4, 0, 3, true), (31, 4, 1, 3, true), (35, 4, 2, 3, true), (39, 4, 3, 3, true), (43, 4, 11, 0, false), (47, 4, 12, 1, false), (55, 0, 0, 0, false), (70, 6, 0, 0, false), (79, 4, 8, 0, false), (82, 4, 9, 0, false)]
def zx_pFic10 : List Nat := [2205, 2206, 2207, 2208, 2211, 2201, 2202, 2203, 2204, 2213, 2215, 1200, 1093, 2209, 2210]
def zx_Sc10 : List (Nat × Nat) := []
def zx_pSc10 : List Nat := []
def zx_Cc10 : List (Nat × Nat) := []
def zx_pCc10 : List (List Nat) := []
def zx_Ic10 : List (Nat × Int) := []
def zx_pIc10 : List Nat := []
def zx_Lc10 : List Nat := []
def zx_Lvc10 : List (Nat × Int64) := []
def zx_pLc10 : List Nat := []
def zx_Kc10 : List (Nat × (Nat × Nat × Nat × Nat)) := [(3, 5, 0, 1, 0), (51, 3, 18, 3, 0), (60, 0, 27, 2, 2), (85, 0, 37, 1, 3)]
def zx_pKc10 : List (List Nat) := [[2200, 1032, 1033], [3073, 1001, 3072], [4041, 1002, 5122, 4039, 4040], [4106, 1012, 5131, 4104, 4105]]
-- java/util/Arrays
def zx_oc11 : String := "java/util/Arrays"
def zx_Fc11 : List (Nat × (Nat × Nat × Nat × Bool)) := []
def zx_pFc11 : List Nat := []
def zx_Fic11 : List (Nat × (Nat × Nat × Nat × Bool)) := []
def zx_pFic11 : List Nat := []
def zx_Sc11 : List (Nat × Nat) := []
def zx_pSc11 : List Nat := []
def zx_Cc11 : List (Nat × Nat) := []
def zx_pCc11 : List (List Nat) := []
def zx_Ic11 : List (Nat × Int) := []
def zx_pIc11 : List Nat := []
def zx_Lc11 : List Nat := []
def zx_Lvc11 : List (Nat × Int64) := []
def zx_pLc11 : List Nat := []
def zx_Kc11 : List (Nat × (Nat × Nat × Nat × Nat)) := []
def zx_pKc11 : List (List Nat) := []
-- OperaHouseModel
def zx_oc12 : String := "OperaHouseModel"
def zx_Fc12 : List (Nat × (Nat × Nat × Nat × Bool)) := [(7, 11, 1, 3, true), (13, 11, 7, 3, true), (17, 11, 8, 3, true), (20, 11, 9, 3, true), (23, 11, 10, 3, true), (26, 11, 11, 3, true), (29, 11, 12, 3, true), (32, 11, 13, 3, true), (35, 11, 14, 3, true), (38, 11, 15, 3, true), (41, 11, 16, 3, true), (45, 11, 17, 3, true), (48, 11, 18, 3, true), (51, 11, 19, 3, true), (54, 11, 20, 3, true), (57, 11, 23, 0, false), (61, 11, 24, 0, false), (64, 11, 25, 3, true), (67, 11, 26, 3, true), (70, 11, 27, 3, true), (73, 11, 28, 3, true), (76, 11, 29, 3, true), (79, 11, 30, 3, true), (82, 11, 31, 3, true), (85, 11, 32, 3, true), (88, 11, 33, 3, true), (91, 11, 34, 3, true), (94, 11, 35, 3, true), (97, 11, 36, 3, true), (100, 11, 48, 3, true), (103, 11, 49, 3, true), (106, 11, 50, 3, true), (109, 11, 51, 3, true), (112, 11, 52, 3, true), (115, 11, 53, 3, true), (118, 11, 54, 3, true), (121, 11, 55, 3, true), (124, 11, 56, 3, true), (127, 11, 57, 3, true), (130, 11, 58, 3, true), (133, 11, 59, 3, true), (136, 11, 60, 3, true), (139, 11, 61, 3, true), (142, 11, 62, 3, true), (145, 11, 63, 3, true), (148, 11, 64, 3, true), (151, 11, 65, 3, true), (154, 11, 66, 3, true), (157, 11, 72, 3, true), (160, 11, 73, 3, true), (163, 11, 74, 3, true), (166, 11, 75, 3, true), (169, 11, 76, 3, true), (172, 11, 77, 3, true), (175, 11, 79, 3, true), (178, 11, 80, 3, true), (181, 11, 81, 3, true), (184, 11, 82, 3, true), (187, 11, 83, 3, true), (190, 11, 84, 3, true), (193, 11, 85, 3, true), (196, 11, 86, 3, true), (199, 11, 87, 3, true), (202, 11, 90, 3, true), (205, 11, 91, 3, true), (208, 11, 92, 3, true), (211, 11, 93, 3, true), (214, 11, 94, 3, true), (217, 11, 95, 3, true), (220, 11, 96, 3, true), (223, 11, 100, 0, false), (226, 11, 0, 0, false), (229, 11, 2, 0, false), (236, 11, 3, 0, false), (239, 11, 4, 0, false), (246, 11, 5, 0, false), (249, 11, 6, 0, false), (255, 11, 21, 0, false), (258, 11, 22, 0, false), (272, 11, 41, 0, false), (275, 11, 42, 0, false), (278, 11, 40, 0, false), (288, 11, 43, 0, false), (291, 11, 47, 2, false), (295, 11, 44, 0, false), (298, 11, 45, 0, false), (313, 11, 46, 0, false), (316, 11, 37, 0, false), (319, 11, 39, 0, false), (381, 11, 38, 0, false), (417, 11, 67, 0, false), (423, 11, 70, 0, false), (430, 11, 69, 0, false), (440, 11, 68, 0, false), (443, 11, 78, 0, false), (446, 11, 71, 0, false), (551, 11, 88, 0, false), (570, 11, 89, 0, false), (596, 11, 98, 0, false), (599, 11, 97, 0, false), (608, 11, 99, 0, false)]
def zx_pFc12 : List Nat := [6029, 6035, 6036, 6037, 6038, 6039, 6040, 6041, 6042, 6043, 6044, 6045, 6046, 6047, 6048, 6051, 6052, 6053, 6054, 6055, 6056, 6057, 6058, 6059, 6060, 6061, 6062, 6063, 6064, 6076, 6077, 6078, 6079, 6080, 6081, 6082, 6083, 6084, 6085, 6086, 6087, 6088, 6089, 6090, 6091, 6092, 6093, 6094, 6100, 6101, 6102, 6103, 6104, 6105, 6107, 6108, 6109, 6110, 6111, 6112, 6113, 6114, 6115, 6118, 6119, 6120, 6121, 6122, 6123, 6124, 6128, 6028, 6030, 6031, 6032, 6033, 6034, 6049, 6050, 6069, 6070, 6068, 6071, 6075, 6072, 6073, 6074, 6065, 6067, 6066, 6095, 6098, 6097, 6096, 6106, 6099, 6116, 6117, 6126, 6125, 6127]
def zx_Fic12 : List (Nat × (Nat × Nat × Nat × Bool)) := [(7, 11, 1, 3, true), (13, 11, 7, 3, true), (17, 11, 8, 3, true), (20, 11, 9, 3, true), (23, 11, 10, 3, true), (26, 11, 11, 3, true), (29, 11, 12, 3, true), (32, 11, 13, 3, true), (35, 11, 14, 3, true), (38, 11, 15, 3, true), (41, 11, 16, 3, true), (45, 11, 17, 3, true), (48, 11, 18, 3, true), (51, 11, 19, 3, true), (54, 11, 20, 3, true), (57, 11, 23, 0, false), (61, 11, 24, 0, false), (64, 11, 25, 3, true), (67, 11, 26, 3, true), (70, 11, 27, 3, true), (73, 11, 28, 3, true), (76, 11, 29, 3, true), (79, 11, 30, 3, true), (82, 11, 31, 3, true), (85, 11, 32, 3, true), (88, 11, 33, 3, true), (91, 11, 34, 3, true), (94, 11, 35, 3, true), (97, 11, 36, 3, true), (100, 11, 48, 3, true), (103, 11, 49, 3, true), (106, 11, 50, 3, true), (109, 11, 51, 3, true), (112, 11, 52, 3, true), (115, 11, 53, 3, true), (118, 11, 54, 3, true), (121, 11, 55, 3, true), (124, 11, 56, 3, true), (127, 11, 57, 3, true), (130, 11, 58, 3, true), (133, 11, 59, 3, true), (136, 11, 60, 3, true), (139, 11, 61, 3, true), (142, 11, 62, 3, true), (145, 11, 63, 3, true), (148, 11, 64, 3, true), (151, 11, 65, 3, true), (154, 11, 66, 3, true), (157, 11, 72, 3, true), (160, 11, 73, 3, true), (163, 11, 74, 3, true), (166, 11, 75, 3, true), (169, 11, 76, 3, true), (172, 11, 77, 3, true), (175, 11, 79, 3, true), (178, 11, 80, 3, true), (181, 11, 81, 3, true), (184, 11, 82, 3, true), (187, 11, 83, 3, true), (190, 11, 84, 3, true), (193, 11, 85, 3, true), (196, 11, 86, 3, true), (199, 11, 87, 3, true), (202, 11, 90, 3, true), (205, 11, 91, 3, true), (208, 11, 92, 3, true), (211, 11, 93, 3, true), (214, 11, 94, 3, true), (217, 11, 95, 3, true), (220, 11, 96, 3, true), (223, 11, 100, 0, false), (226, 11, 0, 0, false), (229, 11, 2, 0, false), (236, 11, 3, 0, false), (239, 11, 4, 0, false), (246, 11, 5, 0, false), (249, 11, 6, 0, false), (255, 11, 21, 0, false), (258, 11, 22, 0, false), (272, 11, 41, 0, false), (275, 11, 42, 0, false), (278, 11, 40, 0, false), (288, 11, 43, 0, false), (291, 11, 47, 2, false), (295, 11, 44, 0, false), (298, 11, 45, 0, false), (313, 11, 46, 0, false), (316, 11, 37, 0, false), (319, 11, 39, 0, false), (381, 11, 38, 0, false), (417, 11, 67, 0, false), (423, 11, 70, 0, false), (430, 11, 69, 0, false), (440, 11, 68, 0, false), (443, 11, 78, 0, false), (446, 11, 71, 0, false), (551, 11, 88, 0, false), (570, 11, 89, 0, false), (596, 11, 98, 0, false), (599, 11, 97, 0, false), (608, 11, 99, 0, false)]
def zx_pFic12 : List Nat := [6029, 6035, 6036, 6037, 6038, 6039, 6040, 6041, 6042, 6043, 6044, 6045, 6046, 6047, 6048, 6051, 6052, 6053, 6054, 6055, 6056, 6057, 6058, 6059, 6060, 6061, 6062, 6063, 6064, 6076, 6077, 6078, 6079, 6080, 6081, 6082, 6083, 6084, 6085, 6086, 6087, 6088, 6089, 6090, 6091, 6092, 6093, 6094, 6100, 6101, 6102, 6103, 6104, 6105, 6107, 6108, 6109, 6110, 6111, 6112, 6113, 6114, 6115, 6118, 6119, 6120, 6121, 6122, 6123, 6124, 6128, 6028, 6030, 6031, 6032, 6033, 6034, 6049, 6050, 6069, 6070, 6068, 6071, 6075, 6072, 6073, 6074, 6065, 6067, 6066, 6095, 6098, 6097, 6096, 6106, 6099, 6116, 6117, 6126, 6125, 6127]
def zx_Sc12 : List (Nat × Nat) := []
def zx_pSc12 : List Nat := []
def zx_Cc12 : List (Nat × Nat) := []
def zx_pCc12 : List (List Nat) := []
def zx_Ic12 : List (Nat × Int) := [(520, 100000)]
def zx_pIc12 : List Nat := [8186]
def zx_Lc12 : List Nat := [329, 338, 340, 342, 344, 349, 354, 356, 361, 363, 365, 367, 369, 371, 373, 375, 377, 379, 401, 403, 405]
def zx_Lvc12 : List (Nat × Int64) := [(329, 1919251316), (338, 6578553), (340, 2003133803), (342, 508675318629), (344, 465557354085), (349, 6710629), (354, 29807), (356, 26982), (361, 1919905645), (363, 469786323827), (365, 1718971500), (367, 474214787188), (369, 1818326117), (371, 427071792498), (373, 29676314707714404), (375, 448546566771), (377, 7238760), (379, 1870030194), (401, 6385252), (403, 28530), (405, 7237492)]
def zx_pLc12 : List Nat := [7165, 7178, 7179, 7180, 7181, 7187, 7186, 7192, 7206, 7207, 7208, 7209, 7210, 7211, 7212, 7213, 7214, 7215, 7239, 8000, 7201]
def zx_Kc12 : List (Nat × (Nat × Nat × Nat × Nat)) := [(1, 5, 0, 1, 0), (232, 0, 65, 2, 11), (242, 1, 68, 3, 0), (252, 0, 70, 1, 11), (261, 0, 72, 2, 11), (310, 0, 76, 2, 11), (433, 0, 81, 3, 11), (449, 0, 85, 1, 11), (460, 0, 84, 2, 11), (499, 1, 93, 2, 0), (502, 1, 95, 2, 0), (505, 1, 96, 3, 0), (508, 0, 91, 1, 11), (511, 0, 92, 2, 11), (514, 0, 94, 1, 11), (554, 0, 99, 1, 11), (567, 0, 98, 1, 11), (573, 0, 101, 2, 11)]
def zx_pKc12 : List (List Nat) := [[6027, 1032, 1033], [7103, 1014, 7100, 7102, 40], [7114, 1014, 7112, 7113], [7122, 1014, 7119, 7121, 41], [7130, 1014, 7127, 7129, 42], [7146, 1014, 7143, 7145, 43], [8036, 1014, 8033, 8035, 64], [8056, 1014, 8053, 8055, 67], [8052, 1014, 8049, 8051, 66], [8143, 1014, 8141, 8142], [8150, 1014, 8148, 8149], [8153, 1014, 8151, 8152], [8136, 1014, 8133, 8135, 82], [8140, 1014, 8137, 8139, 83], [8147, 1014, 8144, 8146, 84], [8165, 1014, 8162, 8164, 86], [8161, 1014, 8158, 8160, 85], [8233, 1014, 8230, 8232, 101]]
-- OperaHouseLaw
def zx_oc13 : String := "OperaHouseLaw"
def zx_Fc13 : List (Nat × (Nat × Nat × Nat × Bool)) := []
def zx_pFc13 : List Nat := []
def zx_Fic13 : List (Nat × (Nat × Nat × Nat × Bool)) := []
def zx_pFic13 : List Nat := []
def zx_Sc13 : List (Nat × Nat) := []
def zx_pSc13 : List Nat := []
def zx_Cc13 : List (Nat × Nat) := [(8, 10), (16, 11)]
def zx_pCc13 : List (List Nat) := [[1026, 1027, 1001], [6022, 6023, 1014]]
def zx_Ic13 : List (Nat × Int) := []
def zx_pIc13 : List Nat := []
def zx_Lc13 : List Nat := []
def zx_Lvc13 : List (Nat × Int64) := []
def zx_pLc13 : List Nat := []
def zx_Kc13 : List (Nat × (Nat × Nat × Nat × Nat)) := [(15, 2, 0, 1, 0), (18, 2, 62, 1, 0), (19, 0, 12, 6, 10), (23, 0, 64, 6, 11), (24, 0, 14, 2, 10), (28, 0, 66, 2, 11), (29, 0, 15, 2, 10), (33, 0, 67, 2, 11), (34, 0, 16, 5, 10), (38, 0, 69, 5, 11), (39, 0, 20, 4, 10), (43, 0, 71, 4, 11), (44, 0, 21, 4, 10), (48, 0, 73, 4, 11), (49, 0, 22, 3, 10), (53, 0, 74, 3, 11), (54, 0, 23, 2, 10), (57, 0, 75, 2, 11), (58, 0, 25, 1, 10), (62, 0, 77, 1, 11), (63, 0, 26, 5, 10), (67, 0, 78, 5, 11), (68, 0, 28, 6, 10), (71, 0, 79, 6, 11), (72, 0, 29, 5, 10), (76, 0, 80, 5, 11), (77, 0, 32, 4, 10), (80, 0, 82, 4, 11), (81, 0, 33, 5, 10), (84, 0, 83, 5, 11), (85, 0, 36, 2, 10), (88, 0, 97, 2, 11), (94, 0, 100, 3, 11), (95, 0, 63, 1, 11), (98, 0, 47, 5, 10), (102, 0, 86, 5, 11), (103, 0, 48, 4, 10), (106, 0, 87, 4, 11), (107, 0, 49, 4, 10), (110, 0, 88, 4, 11), (111, 0, 50, 4, 10), (114, 0, 89, 4, 11), (115, 0, 51, 3, 10), (118, 0, 90, 3, 11), (119, 0, 53, 4, 10), (122, 0, 102, 4, 11), (123, 0, 54, 4, 10), (126, 0, 103, 4, 11), (127, 0, 55, 3, 10), (130, 0, 104, 3, 11), (131, 0, 56, 4, 10), (134, 0, 105, 4, 11), (135, 0, 59, 2, 10), (138, 0, 106, 2, 11), (139, 0, 60, 1, 10), (142, 0, 107, 1, 11), (143, 0, 61, 2, 10), (146, 0, 108, 2, 11)]
def zx_pKc13 : List (List Nat) := [[1030, 1001, 1028, 1029], [6026, 1014, 6024, 6025], [3050, 1001, 3047, 3048, 3049], [7099, 1014, 7096, 7097, 7098], [3058, 1001, 3055, 3056, 3057], [7107, 1014, 7104, 7105, 7106], [3062, 1001, 3059, 3060, 3061], [7111, 1014, 7108, 7109, 7110], [3066, 1001, 3063, 3064, 3065], [7118, 1014, 7115, 7116, 7117], [3086, 1001, 3083, 3084, 3085], [7126, 1014, 7123, 7124, 7125], [3090, 1001, 3087, 3088, 3089], [7134, 1014, 7131, 7132, 7133], [3094, 1001, 3091, 3092, 3093], [7138, 1014, 7135, 7136, 7137], [3098, 1001, 3095, 3096, 3097], [7142, 1014, 7139, 7140, 7141], [4029, 1001, 4026, 4027, 4028], [8008, 1014, 8005, 8006, 8007], [4033, 1001, 4030, 4031, 4032], [8012, 1014, 8009, 8010, 8011], [4049, 1001, 4046, 4047, 4048], [8020, 1014, 8017, 8018, 8019], [4062, 1001, 4059, 4060, 4061], [8032, 1014, 8029, 8030, 8031], [4078, 1001, 4075, 4076, 4077], [8044, 1014, 8041, 8042, 8043], [4087, 1001, 4084, 4085, 4086], [8048, 1014, 8045, 8046, 8047], [4102, 1001, 4099, 4100, 4101], [8157, 1014, 8154, 8155, 8156], [8229, 1014, 8226, 8227, 8228], [7095, 1014, 7092, 7093, 7094], [5016, 1001, 5013, 5014, 5015], [8064, 1014, 8061, 8062, 8063], [5021, 1001, 5018, 5019, 5020], [8076, 1014, 8073, 8074, 8075], [5029, 1001, 5026, 5027, 5028], [8088, 1014, 8085, 8086, 8087], [5069, 1001, 5066, 5067, 5068], [8128, 1014, 8125, 8126, 8127], [5073, 1001, 5070, 5071, 5072], [8132, 1014, 8129, 8130, 8131], [5084, 1001, 5081, 5082, 5083], [8237, 1014, 8234, 8235, 8236], [5098, 1001, 5095, 5096, 5097], [9020, 1014, 9017, 9018, 9019], [5108, 1001, 5105, 5106, 5107], [9028, 1014, 9025, 9026, 9027], [5112, 1001, 5109, 5110, 5111], [9032, 1014, 9029, 9030, 9031], [5170, 1001, 5167, 5168, 5169], [9044, 1014, 9041, 9042, 9043], [5174, 1001, 5171, 5172, 5173], [9048, 1014, 9045, 9046, 9047], [5187, 1001, 5184, 5185, 5186], [9052, 1014, 9049, 9050, 9051]]
def zx_pW0 : List Nat := [1224, 1226, 1228, 1230, 1232, 1234, 1236, 1238]
def zx_pW1 : List Nat := [1065, 1067, 1069, 1071, 1073, 1075, 1077, 1079, 1081]
def zx_pW2 : List Nat := [1166, 1168, 1170, 1172, 1174, 1176, 1178, 1180, 1182, 1184, 1186, 1188]
def zx_pW3 : List Nat := [2182, 2184, 2186, 2188, 2190, 2192]
def zx_pW4 : List Nat := [2217, 2219, 2221, 2223, 2225, 2227, 2229, 2231, 2233, 2235, 2237, 2239, 3001]
def zx_pW5 : List Nat := [2037, 2039, 2041, 2043, 2045, 2047, 2049, 2051, 2053, 2055, 2057, 2059, 2061, 2063, 2065, 2067, 2069, 2071, 2073]
def zx_pW6 : List Nat := [1116, 1118, 1120, 1122, 1124, 1126, 1128, 1130, 1132, 1134]
def zx_pW7 : List Nat := [2113, 2115, 2117, 2119, 2121, 2123, 2125, 2127, 2129]
def zx_pW8 : List Nat := [2086, 2088, 2090]
def zx_pW9 : List Nat := [2149, 2151, 2153, 2155, 2157, 2159, 2161, 2163, 2165]
def zx_pW10 : List Nat := [3018, 3020, 3022, 3024, 3026, 3028, 3030, 3032, 3034, 3036, 3038, 3040, 3042, 3044]
def zx_pW11 : List Nat := [6129, 6131, 6133, 6135, 6137, 6139, 6141, 6143, 6145, 6147, 6149, 6151, 6153, 6155, 6157, 6159, 6161, 6163, 6165, 6167, 6169, 6171, 6173, 6175, 6177, 6179, 6181, 6183, 6185, 6187, 6189, 6191, 6193, 6195, 6197, 6199, 6201, 6203, 6205, 6207, 6209, 6211, 6213, 6215, 6217, 6219, 6221, 6223, 6225, 6227, 6229, 6231, 6233, 6235, 6237, 6239, 7001, 7003, 7005, 7007, 7009, 7011, 7013, 7015, 7017, 7019, 7021, 7023, 7025, 7027, 7029, 7031, 7033, 7035, 7037, 7039, 7041, 7043, 7045, 7047, 7049, 7051, 7053, 7055, 7057, 7059, 7061, 7063, 7065, 7067, 7069, 7071, 7073, 7075, 7077, 7079, 7081, 7083, 7085, 7087, 7089]
end
section
/-- OperaHouse.<init> -/
def zx_t0 : List (Nat × Instr × Nat) := [(0, .aload_n 0, 1), (1, .invokespecial 1, 3), (4, .aload_n 0, 1), (5, .sipush 340, 3), (8, .newarray .int, 2), (10, .putfield 9, 3), (13, .aload_n 0, 1), (14, .sipush 4200, 3), (17, .newarray .int, 2), (19, .putfield 13, 3), (22, .aload_n 0, 1), (23, .new 16, 3),
    (26, .dup, 1), (27, .invokespecial 18, 3), (30, .putfield 19, 3), (33, .aload_n 0, 1), (34, .new 23, 3), (37, .dup, 1), (38, .invokespecial 25, 3), (41, .putfield 26, 3), (44, .aload_n 0, 1), (45, .new 30, 3), (48, .dup, 1), (49, .invokespecial 32, 3),
    (52, .putfield 33, 3), (55, .aload_n 0, 1), (56, .new 37, 3), (59, .dup, 1), (60, .invokespecial 39, 3), (63, .putfield 40, 3), (66, .aload_n 0, 1), (67, .new 44, 3), (70, .dup, 1), (71, .aload_n 0, 1), (72, .getfield 9, 3), (75, .invokespecial 46, 3),
    (78, .putfield 49, 3), (81, .aload_n 0, 1), (82, .new 53, 3), (85, .dup, 1), (86, .aload_n 0, 1), (87, .getfield 19, 3), (90, .aload_n 0, 1), (91, .getfield 26, 3), (94, .aload_n 0, 1), (95, .getfield 33, 3), (98, .invokespecial 55, 3), (101, .putfield 58, 3),
    (104, .aload_n 0, 1), (105, .new 62, 3), (108, .dup, 1), (109, .aload_n 0, 1), (110, .getfield 19, 3), (113, .aload_n 0, 1), (114, .getfield 26, 3), (117, .aload_n 0, 1), (118, .getfield 33, 3), (121, .aload_n 0, 1), (122, .getfield 40, 3), (125, .aload_n 0, 1),
    (126, .getfield 58, 3), (129, .invokespecial 64, 3), (132, .putfield 67, 3), (135, .aload_n 0, 1), (136, .new 71, 3), (139, .dup, 1), (140, .aload_n 0, 1), (141, .getfield 19, 3), (144, .aload_n 0, 1), (145, .getfield 26, 3), (148, .aload_n 0, 1), (149, .getfield 33, 3),
    (152, .aload_n 0, 1), (153, .getfield 67, 3), (156, .invokespecial 73, 3), (159, .putfield 76, 3), (162, .aload_n 0, 1), (163, .getfield 19, 3), (166, .bipush 24, 2), (168, .putfield 80, 3), (171, .aload_n 0, 1), (172, .getfield 19, 3), (175, .sipush 168, 3), (178, .putfield 84, 3),
    (181, .return_, 1)]
def zx_m0 : zx_MD := (zx_t0, ((zx_fd zx_Fic0, zx_fd zx_Sc0, zx_fd zx_Cc0, zx_fd zx_Ic0, zx_has zx_Lc0, zx_fd [(8, true, (-2147483648), 2147483647), (17, true, (-2147483648), 2147483647)], 1, true, (217, 16903), false), (zx_fd zx_Kc0, 4)))
/-- OperaHouse$House.<init> -/
def zx_t1 : List (Nat × Instr × Nat) := [(0, .aload_n 0, 1), (1, .invokespecial 3, 3), (4, .aload_n 0, 1), (5, .new 9, 3), (8, .dup, 1), (9, .invokespecial 11, 3), (12, .putfield 12, 3), (15, .aload_n 0, 1), (16, .bipush 9, 2), (18, .anewarray 18, 3), (21, .putfield 20, 3), (24, .aload_n 0, 1),
    (25, .bipush 20, 2), (27, .anewarray 9, 3), (30, .putfield 24, 3), (33, .aload_n 0, 1), (34, .bipush 20, 2), (36, .newarray .int, 2), (38, .putfield 28, 3), (41, .aload_n 0, 1), (42, .bipush 20, 2), (44, .newarray .int, 2), (46, .putfield 32, 3), (49, .aload_n 0, 1),
    (50, .bipush 20, 2), (52, .newarray .int, 2), (54, .putfield 35, 3), (57, .aload_n 0, 1), (58, .iconst 4, 1), (59, .newarray .int, 2), (61, .putfield 38, 3), (64, .aload_n 0, 1), (65, .iconst 4, 1), (66, .newarray .int, 2), (68, .putfield 41, 3), (71, .iconst 0, 1),
    (72, .istore_n 1, 1), (73, .iload_n 1, 1), (74, .bipush 9, 2), (76, .if_icmp .ge 22, 3), (79, .aload_n 0, 1), (80, .getfield 20, 3), (83, .iload_n 1, 1), (84, .new 18, 3), (87, .dup, 1), (88, .invokespecial 44, 3), (91, .aastore, 1), (92, .iinc 1 1, 3),
    (95, .goto (-22), 3), (98, .iconst 0, 1), (99, .istore_n 1, 1), (100, .iload_n 1, 1), (101, .bipush 20, 2), (103, .if_icmp .ge 22, 3), (106, .aload_n 0, 1), (107, .getfield 24, 3), (110, .iload_n 1, 1), (111, .new 9, 3), (114, .dup, 1), (115, .invokespecial 11, 3),
    (118, .aastore, 1), (119, .iinc 1 1, 3), (122, .goto (-22), 3), (125, .return_, 1)]
def zx_m1 : zx_MD := (zx_t1, ((zx_fd zx_Fic1, zx_fd zx_Sc1, zx_fd zx_Cc1, zx_fd zx_Ic1, zx_has zx_Lc1, zx_fd [(36, true, (-2147483648), 2147483647), (44, true, (-2147483648), 2147483647), (52, true, (-2147483648), 2147483647), (59, true, (-2147483648), 2147483647), (66, true, (-2147483648), 2147483647)], 2, true, (166, 2821), false), (zx_fd zx_Kc1, 4)))
/-- OperaHouse$Contract.<init> -/
def zx_t2 : List (Nat × Instr × Nat) := [(0, .aload_n 0, 1), (1, .invokespecial 3, 3), (4, .aload_n 0, 1), (5, .iconst 4, 1), (6, .newarray .int, 2), (8, .putfield 9, 3), (11, .aload_n 0, 1), (12, .bipush 8, 2), (14, .newarray .int, 2), (16, .putfield 15, 3), (19, .aload_n 0, 1), (20, .bipush 9, 2),
    (22, .newarray .int, 2), (24, .putfield 18, 3), (27, .aload_n 0, 1), (28, .bipush 80, 2), (30, .newarray .int, 2), (32, .putfield 21, 3), (35, .aload_n 0, 1), (36, .invokevirtual 24, 3), (39, .return_, 1)]
def zx_m2 : zx_MD := (zx_t2, ((zx_fd zx_Fic2, zx_fd zx_Sc2, zx_fd zx_Cc2, zx_fd zx_Ic2, zx_has zx_Lc2, zx_fd [(6, true, (-2147483648), 2147483647), (14, true, (-2147483648), 2147483647), (22, true, (-2147483648), 2147483647), (30, true, (-2147483648), 2147483647)], 1, true, (4, 101), false), (zx_fd zx_Kc2, 4)))
/-- OperaHouse$Contract.blank -/
def zx_t3 : List (Nat × Instr × Nat) := [(0, .aload_n 0, 1), (1, .getfield 9, 3), (4, .iconst 0, 1), (5, .bipush 12, 2), (7, .iastore, 1), (8, .aload_n 0, 1), (9, .getfield 9, 3), (12, .iconst 1, 1), (13, .bipush 8, 2), (15, .iastore, 1), (16, .aload_n 0, 1), (17, .getfield 9, 3),
    (20, .iconst 2, 1), (21, .iconst 4, 1), (22, .iastore, 1), (23, .aload_n 0, 1), (24, .getfield 9, 3), (27, .iconst 3, 1), (28, .bipush 100, 2), (30, .iastore, 1), (31, .aload_n 0, 1), (32, .iconst 0, 1), (33, .putfield 27, 3), (36, .aload_n 0, 1),
    (37, .iconst 0, 1), (38, .putfield 31, 3), (41, .aload_n 0, 1), (42, .iconst 0, 1), (43, .putfield 34, 3), (46, .aload_n 0, 1), (47, .iconst 0, 1), (48, .putfield 37, 3), (51, .aload_n 0, 1), (52, .iconst 0, 1), (53, .putfield 40, 3), (56, .return_, 1)]
def zx_m3 : zx_MD := (zx_t3, ((zx_fd zx_Fc2, zx_fd zx_Sc2, zx_fd zx_Cc2, zx_fd zx_Ic2, zx_has zx_Lc2, zx_fd [], 1, false, (0, 0), false), (zx_fd zx_Kc2, 4)))
/-- OperaHouse$Opera.<init> -/
def zx_t4 : List (Nat × Instr × Nat) := [(0, .aload_n 0, 1), (1, .invokespecial 3, 3), (4, .aload_n 0, 1), (5, .iconst 4, 1), (6, .newarray .int, 2), (8, .putfield 9, 3), (11, .aload_n 0, 1), (12, .bipush 8, 2), (14, .newarray .int, 2), (16, .putfield 15, 3), (19, .aload_n 0, 1), (20, .bipush 8, 2),
    (22, .newarray .int, 2), (24, .putfield 18, 3), (27, .aload_n 0, 1), (28, .bipush 8, 2), (30, .newarray .int, 2), (32, .putfield 21, 3), (35, .aload_n 0, 1), (36, .bipush 8, 2), (38, .newarray .int, 2), (40, .putfield 24, 3), (43, .return_, 1)]
def zx_m4 : zx_MD := (zx_t4, ((zx_fd zx_Fic3, zx_fd zx_Sc3, zx_fd zx_Cc3, zx_fd zx_Ic3, zx_has zx_Lc3, zx_fd [(6, true, (-2147483648), 2147483647), (14, true, (-2147483648), 2147483647), (22, true, (-2147483648), 2147483647), (30, true, (-2147483648), 2147483647), (38, true, (-2147483648), 2147483647)], 1, true, (5, 36), false), (zx_fd zx_Kc3, 4)))
/-- OperaHouse$Calls.<init> -/
def zx_t5 : List (Nat × Instr × Nat) := [(0, .aload_n 0, 1), (1, .invokespecial 3, 3), (4, .aload_n 0, 1), (5, .bipush 60, 2), (7, .newarray .int, 2), (9, .putfield 9, 3), (12, .aload_n 0, 1), (13, .bipush 60, 2), (15, .newarray .int, 2), (17, .putfield 15, 3), (20, .aload_n 0, 1), (21, .bipush 60, 2),
    (23, .newarray .int, 2), (25, .putfield 18, 3), (28, .aload_n 0, 1), (29, .bipush 60, 2), (31, .newarray .int, 2), (33, .putfield 21, 3), (36, .aload_n 0, 1), (37, .bipush 60, 2), (39, .newarray .int, 2), (41, .putfield 24, 3), (44, .aload_n 0, 1), (45, .bipush 60, 2),
    (47, .newarray .int, 2), (49, .putfield 27, 3), (52, .aload_n 0, 1), (53, .bipush 60, 2), (55, .newarray .int, 2), (57, .putfield 30, 3), (60, .return_, 1)]
def zx_m5 : zx_MD := (zx_t5, ((zx_fd zx_Fic4, zx_fd zx_Sc4, zx_fd zx_Cc4, zx_fd zx_Ic4, zx_has zx_Lc4, zx_fd [(7, true, (-2147483648), 2147483647), (15, true, (-2147483648), 2147483647), (23, true, (-2147483648), 2147483647), (31, true, (-2147483648), 2147483647), (39, true, (-2147483648), 2147483647), (47, true, (-2147483648), 2147483647), (55, true, (-2147483648), 2147483647)], 1, true, (7, 420), false), (zx_fd zx_Kc4, 4)))
/-- OperaHouse$Ledger.<init> -/
def zx_t6 : List (Nat × Instr × Nat) := [(0, .aload_n 0, 1), (1, .invokespecial 3, 3), (4, .aload_n 0, 1), (5, .sipush 400, 3), (8, .newarray .int, 2), (10, .putfield 9, 3), (13, .aload_n 0, 1), (14, .sipush 400, 3), (17, .newarray .int, 2), (19, .putfield 15, 3), (22, .aload_n 0, 1), (23, .sipush 400, 3),
    (26, .newarray .int, 2), (28, .putfield 18, 3), (31, .aload_n 0, 1), (32, .sipush 400, 3), (35, .newarray .boolean, 2), (37, .putfield 21, 3), (40, .aload_n 0, 1), (41, .bipush 60, 2), (43, .newarray .int, 2), (45, .putfield 25, 3), (48, .aload_n 0, 1), (49, .bipush 60, 2),
    (51, .newarray .int, 2), (53, .putfield 28, 3), (56, .aload_n 0, 1), (57, .bipush 60, 2), (59, .newarray .int, 2), (61, .putfield 31, 3), (64, .aload_n 0, 1), (65, .sipush 200, 3), (68, .newarray .int, 2), (70, .putfield 34, 3), (73, .aload_n 0, 1), (74, .sipush 200, 3),
    (77, .newarray .int, 2), (79, .putfield 37, 3), (82, .aload_n 0, 1), (83, .sipush 200, 3), (86, .newarray .int, 2), (88, .putfield 40, 3), (91, .aload_n 0, 1), (92, .sipush 480, 3), (95, .newarray .int, 2), (97, .putfield 43, 3), (100, .aload_n 0, 1), (101, .sipush 480, 3),
    (104, .newarray .int, 2), (106, .putfield 46, 3), (109, .aload_n 0, 1), (110, .sipush 480, 3), (113, .newarray .int, 2), (115, .putfield 49, 3), (118, .aload_n 0, 1), (119, .sipush 1200, 3), (122, .newarray .int, 2), (124, .putfield 52, 3), (127, .aload_n 0, 1), (128, .bipush 20, 2),
    (130, .newarray .int, 2), (132, .putfield 55, 3), (135, .aload_n 0, 1), (136, .sipush 1440, 3), (139, .newarray .int, 2), (141, .putfield 58, 3), (144, .return_, 1)]
def zx_m6 : zx_MD := (zx_t6, ((zx_fd zx_Fic5, zx_fd zx_Sc5, zx_fd zx_Cc5, zx_fd zx_Ic5, zx_has zx_Lc5, zx_fd [(8, true, (-2147483648), 2147483647), (17, true, (-2147483648), 2147483647), (26, true, (-2147483648), 2147483647), (35, true, 0, 1), (43, true, (-2147483648), 2147483647), (51, true, (-2147483648), 2147483647), (59, true, (-2147483648), 2147483647), (68, true, (-2147483648), 2147483647), (77, true, (-2147483648), 2147483647), (86, true, (-2147483648), 2147483647), (95, true, (-2147483648), 2147483647), (104, true, (-2147483648), 2147483647), (113, true, (-2147483648), 2147483647), (122, true, (-2147483648), 2147483647), (130, true, (-2147483648), 2147483647), (139, true, (-2147483648), 2147483647)], 1, true, (16, 6480), false), (zx_fd zx_Kc5, 4)))
/-- OperaHouse$Wagons.<init> -/
def zx_t7 : List (Nat × Instr × Nat) := [(0, .aload_n 0, 1), (1, .invokespecial 3, 3), (4, .aload_n 0, 1), (5, .sipush 625, 3), (8, .newarray .boolean, 2), (10, .putfield 9, 3), (13, .aload_n 0, 1), (14, .bipush 120, 2), (16, .newarray .int, 2), (18, .putfield 15, 3), (21, .return_, 1)]
def zx_m7 : zx_MD := (zx_t7, ((zx_fd zx_Fic6, zx_fd zx_Sc6, zx_fd zx_Cc6, zx_fd zx_Ic6, zx_has zx_Lc6, zx_fd [(8, false, 0, 0), (16, false, 0, 0)], 1, true, (2, 745), false), (zx_fd zx_Kc6, 4)))
/-- OperaHouse$Reader.<init> -/
def zx_t8 : List (Nat × Instr × Nat) := [(0, .aload_n 0, 1), (1, .invokespecial 3, 3), (4, .aload_n 0, 1), (5, .getstatic 9, 3), (8, .putfield 15, 3), (11, .aload_n 0, 1), (12, .new 20, 3), (15, .dup, 1), (16, .invokespecial 22, 3), (19, .putfield 23, 3), (22, .aload_n 0, 1), (23, .aload_n 1, 1),
    (24, .putfield 27, 3), (27, .return_, 1)]
def zx_m8 : zx_MD := (zx_t8, ((zx_fd zx_Fic7, zx_fd zx_Sc7, zx_fd zx_Cc7, zx_fd zx_Ic7, zx_has zx_Lc7, zx_fd [], 2, true, (5, 110), false), (zx_fd zx_Kc7, 4)))
/-- OperaHouse$Walk.<init> -/
def zx_t9 : List (Nat × Instr × Nat) := [(0, .aload_n 0, 1), (1, .invokespecial 3, 3), (4, .aload_n 0, 1), (5, .sipush 480, 3), (8, .newarray .int, 2), (10, .putfield 9, 3), (13, .aload_n 0, 1), (14, .sipush 480, 3), (17, .newarray .int, 2), (19, .putfield 15, 3), (22, .aload_n 0, 1), (23, .bipush 60, 2),
    (25, .newarray .int, 2), (27, .putfield 18, 3), (30, .aload_n 0, 1), (31, .bipush 60, 2), (33, .newarray .int, 2), (35, .putfield 21, 3), (38, .aload_n 0, 1), (39, .bipush 10, 2), (41, .newarray .int, 2), (43, .putfield 24, 3), (46, .aload_n 0, 1), (47, .aload_n 1, 1),
    (48, .putfield 27, 3), (51, .aload_n 0, 1), (52, .aload_n 2, 1), (53, .putfield 31, 3), (56, .aload_n 0, 1), (57, .aload_n 3, 1), (58, .putfield 35, 3), (61, .return_, 1)]
def zx_m9 : zx_MD := (zx_t9, ((zx_fd zx_Fic8, zx_fd zx_Sc8, zx_fd zx_Cc8, zx_fd zx_Ic8, zx_has zx_Lc8, zx_fd [(8, true, (-2147483648), 2147483647), (17, true, (-2147483648), 2147483647), (25, true, (-2147483648), 2147483647), (33, true, (-2147483648), 2147483647), (41, true, (-2147483648), 2147483647)], 4, true, (5, 1090), false), (zx_fd zx_Kc8, 4)))
/-- OperaHouse$Judge.<init> -/
def zx_t10 : List (Nat × Instr × Nat) := [(0, .aload_n 0, 1), (1, .invokespecial 3, 3), (4, .aload_n 0, 1), (5, .bipush 60, 2), (7, .newarray .int, 2), (9, .putfield 9, 3), (12, .aload_n 0, 1), (13, .aload_n 1, 1), (14, .putfield 15, 3), (17, .aload_n 0, 1), (18, .aload_n 2, 1), (19, .putfield 19, 3),
    (22, .aload_n 0, 1), (23, .aload_n 3, 1), (24, .putfield 23, 3), (27, .aload_n 0, 1), (28, .aload 4, 2), (30, .putfield 27, 3), (33, .aload_n 0, 1), (34, .aload 5, 2), (36, .putfield 31, 3), (39, .return_, 1)]
def zx_m10 : zx_MD := (zx_t10, ((zx_fd zx_Fic9, zx_fd zx_Sc9, zx_fd zx_Cc9, zx_fd zx_Ic9, zx_has zx_Lc9, zx_fd [(7, true, (-2147483648), 2147483647)], 6, true, (1, 60), false), (zx_fd zx_Kc9, 4)))
/-- OperaHouse$Layer.<init> -/
def zx_t11 : List (Nat × Instr × Nat) := [(0, .aload_n 0, 1), (1, .invokespecial 3, 3), (4, .aload_n 0, 1), (5, .bipush 6, 2), (7, .newarray .int, 2), (9, .putfield 9, 3), (12, .aload_n 0, 1), (13, .bipush 6, 2), (15, .newarray .int, 2), (17, .putfield 15, 3), (20, .aload_n 0, 1), (21, .bipush 60, 2),
    (23, .newarray .int, 2), (25, .putfield 18, 3), (28, .aload_n 0, 1), (29, .sipush 480, 3), (32, .newarray .int, 2), (34, .putfield 21, 3), (37, .aload_n 0, 1), (38, .bipush 6, 2), (40, .newarray .int, 2), (42, .putfield 24, 3), (45, .aload_n 0, 1), (46, .aload_n 1, 1),
    (47, .putfield 27, 3), (50, .aload_n 0, 1), (51, .aload_n 2, 1), (52, .putfield 31, 3), (55, .aload_n 0, 1), (56, .aload_n 3, 1), (57, .putfield 35, 3), (60, .aload_n 0, 1), (61, .aload 4, 2), (63, .putfield 39, 3), (66, .return_, 1)]
def zx_m11 : zx_MD := (zx_t11, ((zx_fd zx_Fic10, zx_fd zx_Sc10, zx_fd zx_Cc10, zx_fd zx_Ic10, zx_has zx_Lc10, zx_fd [(7, true, (-2147483648), 2147483647), (15, true, (-2147483648), 2147483647), (23, true, (-2147483648), 2147483647), (32, true, (-2147483648), 2147483647), (40, true, (-2147483648), 2147483647)], 5, true, (5, 558), false), (zx_fd zx_Kc10, 4)))
/-- OperaHouse.feed -/
def zx_t12 : List (Nat × Instr × Nat) := [(0, .aload_n 0, 1), (1, .getfield 87, 3), (4, .bipush 20, 2), (6, .iadd, 1), (7, .sipush 340, 3), (10, .if_icmp .le 5, 3), (13, .iconst (-1), 1), (14, .ireturn, 1), (15, .aload_n 0, 1), (16, .iload_n 1, 1), (17, .invokevirtual 90, 3), (20, .aload_n 0, 1),
    (21, .iload_n 2, 1), (22, .invokevirtual 90, 3), (25, .aload_n 0, 1), (26, .iload_n 3, 1), (27, .invokevirtual 90, 3), (30, .aload_n 0, 1), (31, .iload 4, 2), (33, .invokevirtual 90, 3), (36, .aload_n 0, 1), (37, .iload 5, 2), (39, .invokevirtual 90, 3), (42, .aload_n 0, 1),
    (43, .getfield 76, 3), (46, .iconst 0, 1), (47, .putfield 94, 3), (50, .aload_n 0, 1), (51, .getfield 87, 3), (54, .ireturn, 1)]
def zx_m12 : zx_MD := (zx_t12, ((zx_fd zx_Fc0, zx_fd zx_Sc0, zx_fd zx_Cc0, zx_fd zx_Ic0, zx_has zx_Lc0, zx_fd [], 6, false, (0, 0), false), (zx_fd zx_Kc0, 0)))
/-- OperaHouse.putBytes -/
def zx_t13 : List (Nat × Instr × Nat) := [(0, .bipush 24, 2), (2, .istore_n 2, 1), (3, .iload_n 2, 1), (4, .ifCond .lt 35, 3), (7, .aload_n 0, 1), (8, .getfield 9, 3), (11, .aload_n 0, 1), (12, .getfield 87, 3), (15, .iload_n 1, 1), (16, .iload_n 2, 1), (17, .ishr, 1), (18, .sipush 255, 3),
    (21, .iand, 1), (22, .iastore, 1), (23, .aload_n 0, 1), (24, .dup, 1), (25, .getfield 87, 3), (28, .iconst 1, 1), (29, .iadd, 1), (30, .putfield 87, 3), (33, .iinc 2 (-8), 3), (36, .goto (-33), 3), (39, .return_, 1)]
def zx_m13 : zx_MD := (zx_t13, ((zx_fd zx_Fc0, zx_fd zx_Sc0, zx_fd zx_Cc0, zx_fd zx_Ic0, zx_has zx_Lc0, zx_fd [], 3, false, (0, 0), false), (zx_fd zx_Kc0, 4)))
/-- OperaHouse.end -/
def zx_t14 : List (Nat × Instr × Nat) := [(0, .iload_n 1, 1), (1, .ifCond .lt 11, 3), (4, .iload_n 1, 1), (5, .aload_n 0, 1), (6, .getfield 87, 3), (9, .if_icmp .le 5, 3), (12, .iconst 0, 1), (13, .ireturn, 1), (14, .aload_n 0, 1), (15, .iload_n 1, 1), (16, .putfield 87, 3), (19, .aload_n 0, 1),
    (20, .getfield 76, 3), (23, .iconst 0, 1), (24, .putfield 94, 3), (27, .iconst 1, 1), (28, .ireturn, 1)]
def zx_m14 : zx_MD := (zx_t14, ((zx_fd zx_Fc0, zx_fd zx_Sc0, zx_fd zx_Cc0, zx_fd zx_Ic0, zx_has zx_Lc0, zx_fd [], 2, false, (0, 0), false), (zx_fd zx_Kc0, 1)))
/-- OperaHouse.next -/
def zx_t15 : List (Nat × Instr × Nat) := [(0, .iload_n 1, 1), (1, .ifCond .lt 20, 3), (4, .iload_n 1, 1), (5, .bipush 30, 2), (7, .if_icmp .ge 14, 3), (10, .aload_n 0, 1), (11, .getfield 98, 3), (14, .iload_n 1, 1), (15, .iadd, 1), (16, .bipush 30, 2), (18, .if_icmp .lt 5, 3), (21, .iconst (-1), 1),
    (22, .ireturn, 1), (23, .aload_n 0, 1), (24, .dup, 1), (25, .getfield 98, 3), (28, .iload_n 1, 1), (29, .iadd, 1), (30, .putfield 98, 3), (33, .aload_n 0, 1), (34, .getfield 76, 3), (37, .iconst 0, 1), (38, .putfield 94, 3), (41, .aload_n 0, 1),
    (42, .getfield 98, 3), (45, .ireturn, 1)]
def zx_m15 : zx_MD := (zx_t15, ((zx_fd zx_Fc0, zx_fd zx_Sc0, zx_fd zx_Cc0, zx_fd zx_Ic0, zx_has zx_Lc0, zx_fd [], 2, false, (0, 0), false), (zx_fd zx_Kc0, 0)))
/-- OperaHouse.opera -/
def zx_t16 : List (Nat × Instr × Nat) := [(0, .aload_n 0, 1), (1, .invokevirtual 101, 3), (4, .istore 5, 2), (6, .aload_n 0, 1), (7, .getfield 19, 3), (10, .getfield 105, 3), (13, .bipush 9, 2), (15, .if_icmp .lt 5, 3), (18, .iconst (-1), 1), (19, .ireturn, 1), (20, .iload_n 1, 1), (21, .iconst 2, 1),
    (22, .bipush 6, 2), (24, .invokestatic 108, 3), (27, .ifCond .eq 23, 3), (30, .iload_n 2, 1), (31, .iconst 0, 1), (32, .iconst 3, 1), (33, .invokestatic 108, 3), (36, .ifCond .eq 14, 3), (39, .iload 4, 2), (41, .iconst 1, 1), (42, .bipush 60, 2), (44, .invokestatic 108, 3),
    (47, .ifCond .ne 5, 3), (50, .iconst (-1), 1), (51, .ireturn, 1), (52, .aload_n 0, 1), (53, .getfield 19, 3), (56, .getfield 112, 3), (59, .aload_n 0, 1), (60, .getfield 19, 3), (63, .getfield 105, 3), (66, .aaload, 1), (67, .astore 6, 2), (69, .aload 6, 2),
    (71, .aload_n 0, 1), (72, .getfield 9, 3), (75, .iload 5, 2), (77, .invokevirtual 116, 3), (80, .ifCond .ne 5, 3), (83, .iconst (-1), 1), (84, .ireturn, 1), (85, .aload 6, 2), (87, .iload_n 1, 1), (88, .putfield 122, 3), (91, .aload 6, 2), (93, .iload_n 2, 1),
    (94, .putfield 125, 3), (97, .aload 6, 2), (99, .iload_n 3, 1), (100, .putfield 128, 3), (103, .aload 6, 2), (105, .iload 4, 2), (107, .putfield 131, 3), (110, .aload_n 0, 1), (111, .getfield 19, 3), (114, .dup, 1), (115, .getfield 105, 3), (118, .iconst 1, 1),
    (119, .iadd, 1), (120, .putfield 105, 3), (123, .aload_n 0, 1), (124, .getfield 76, 3), (127, .iconst 0, 1), (128, .putfield 94, 3), (131, .aload_n 0, 1), (132, .getfield 19, 3), (135, .getfield 105, 3), (138, .iconst 1, 1), (139, .isub, 1), (140, .ireturn, 1)]
def zx_m16 : zx_MD := (zx_t16, ((zx_fd zx_Fc0, zx_fd zx_Sc0, zx_fd zx_Cc0, zx_fd zx_Ic0, zx_has zx_Lc0, zx_fd [], 7, false, (0, 0), false), (zx_fd zx_Kc0, 0)))
/-- OperaHouse.emptiedTape -/
def zx_t17 : List (Nat × Instr × Nat) := [(0, .aload_n 0, 1), (1, .getfield 87, 3), (4, .istore_n 1, 1), (5, .aload_n 0, 1), (6, .iconst 0, 1), (7, .putfield 87, 3), (10, .iload_n 1, 1), (11, .ireturn, 1)]
def zx_m17 : zx_MD := (zx_t17, ((zx_fd zx_Fc0, zx_fd zx_Sc0, zx_fd zx_Cc0, zx_fd zx_Ic0, zx_has zx_Lc0, zx_fd [], 2, false, (0, 0), false), (zx_fd zx_Kc0, 0)))
/-- OperaHouse.within -/
def zx_t18 : List (Nat × Instr × Nat) := [(0, .iload_n 0, 1), (1, .iload_n 1, 1), (2, .if_icmp .lt 12, 3), (5, .iload_n 0, 1), (6, .iload_n 2, 1), (7, .if_icmp .gt 7, 3), (10, .iconst 1, 1), (11, .goto 4, 3), (14, .iconst 0, 1), (15, .ireturn, 1)]
def zx_m18 : zx_MD := (zx_t18, ((zx_fd zx_Fc0, zx_fd zx_Sc0, zx_fd zx_Cc0, zx_fd zx_Ic0, zx_has zx_Lc0, zx_fd [], 3, false, (0, 0), false), (zx_fd zx_Kc0, 1)))
/-- OperaHouse$Opera.readTape -/
def zx_t19 : List (Nat × Instr × Nat) := [(0, .iload_n 2, 1), (1, .bipush 8, 2), (3, .if_icmp .lt 15, 3), (6, .iload_n 2, 1), (7, .bipush 36, 2), (9, .if_icmp .gt 9, 3), (12, .iload_n 2, 1), (13, .iconst 4, 1), (14, .irem, 1), (15, .ifCond .eq 5, 3), (18, .iconst 0, 1), (19, .ireturn, 1),
    (20, .iconst 0, 1), (21, .istore_n 3, 1), (22, .iload_n 3, 1), (23, .iconst 4, 1), (24, .if_icmp .ge 31, 3), (27, .aload_n 0, 1), (28, .getfield 9, 3), (31, .iload_n 3, 1), (32, .aload_n 1, 1), (33, .iload_n 3, 1), (34, .iaload, 1), (35, .iastore, 1),
    (36, .aload_n 0, 1), (37, .getfield 9, 3), (40, .iload_n 3, 1), (41, .iaload, 1), (42, .bipush 40, 2), (44, .if_icmp .le 5, 3), (47, .iconst 0, 1), (48, .ireturn, 1), (49, .iinc 3 1, 3), (52, .goto (-30), 3), (55, .aload_n 0, 1), (56, .iload_n 2, 1),
    (57, .iconst 4, 1), (58, .idiv, 1), (59, .iconst 1, 1), (60, .isub, 1), (61, .putfield 27, 3), (64, .iconst 0, 1), (65, .istore_n 3, 1), (66, .iload_n 3, 1), (67, .aload_n 0, 1), (68, .getfield 27, 3), (71, .if_icmp .ge 25, 3), (74, .aload_n 0, 1),
    (75, .iload_n 3, 1), (76, .aload_n 1, 1), (77, .iconst 4, 1), (78, .iconst 4, 1), (79, .iload_n 3, 1), (80, .imul, 1), (81, .iadd, 1), (82, .invokevirtual 31, 3), (85, .ifCond .ne 5, 3), (88, .iconst 0, 1), (89, .ireturn, 1), (90, .iinc 3 1, 3),
    (93, .goto (-27), 3), (96, .iconst 1, 1), (97, .ireturn, 1)]
def zx_m19 : zx_MD := (zx_t19, ((zx_fd zx_Fc3, zx_fd zx_Sc3, zx_fd zx_Cc3, zx_fd zx_Ic3, zx_has zx_Lc3, zx_fd [], 4, false, (0, 0), false), (zx_fd zx_Kc3, 1)))
/-- OperaHouse.singer -/
def zx_t20 : List (Nat × Instr × Nat) := [(0, .aload_n 0, 1), (1, .getfield 19, 3), (4, .getfield 134, 3), (7, .bipush 20, 2), (9, .if_icmp .lt 5, 3), (12, .iconst (-1), 1), (13, .ireturn, 1), (14, .iload_n 1, 1), (15, .iconst 0, 1), (16, .bipush 63, 2), (18, .invokestatic 108, 3), (21, .ifCond .eq 23, 3),
    (24, .iload_n 2, 1), (25, .iconst 0, 1), (26, .bipush 63, 2), (28, .invokestatic 108, 3), (31, .ifCond .eq 13, 3), (34, .iload_n 3, 1), (35, .iconst 0, 1), (36, .bipush 9, 2), (38, .invokestatic 108, 3), (41, .ifCond .ne 5, 3), (44, .iconst (-1), 1), (45, .ireturn, 1),
    (46, .aload_n 0, 1), (47, .getfield 19, 3), (50, .getfield 134, 3), (53, .istore 4, 2), (55, .aload_n 0, 1), (56, .getfield 19, 3), (59, .getfield 137, 3), (62, .iload 4, 2), (64, .iload_n 1, 1), (65, .iastore, 1), (66, .aload_n 0, 1), (67, .getfield 19, 3),
    (70, .getfield 140, 3), (73, .iload 4, 2), (75, .iload_n 2, 1), (76, .iastore, 1), (77, .aload_n 0, 1), (78, .getfield 19, 3), (81, .getfield 143, 3), (84, .iload 4, 2), (86, .iload_n 3, 1), (87, .iastore, 1), (88, .aload_n 0, 1), (89, .getfield 19, 3),
    (92, .dup, 1), (93, .getfield 134, 3), (96, .iconst 1, 1), (97, .iadd, 1), (98, .putfield 134, 3), (101, .aload_n 0, 1), (102, .getfield 76, 3), (105, .iconst 0, 1), (106, .putfield 94, 3), (109, .iload 4, 2), (111, .ireturn, 1)]
def zx_m20 : zx_MD := (zx_t20, ((zx_fd zx_Fc0, zx_fd zx_Sc0, zx_fd zx_Cc0, zx_fd zx_Ic0, zx_has zx_Lc0, zx_fd [], 5, false, (0, 0), false), (zx_fd zx_Kc0, 0)))
/-- OperaHouse.players -/
def zx_t21 : List (Nat × Instr × Nat) := [(0, .iload_n 1, 1), (1, .iconst 0, 1), (2, .iconst 3, 1), (3, .invokestatic 108, 3), (6, .ifCond .eq 23, 3), (9, .iload_n 2, 1), (10, .iconst 0, 1), (11, .bipush 60, 2), (13, .invokestatic 108, 3), (16, .ifCond .eq 13, 3), (19, .iload_n 3, 1), (20, .iconst 0, 1),
    (21, .bipush 60, 2), (23, .invokestatic 108, 3), (26, .ifCond .ne 5, 3), (29, .iconst 0, 1), (30, .ireturn, 1), (31, .aload_n 0, 1), (32, .getfield 19, 3), (35, .getfield 146, 3), (38, .iload_n 1, 1), (39, .iload_n 2, 1), (40, .iastore, 1), (41, .aload_n 0, 1),
    (42, .getfield 19, 3), (45, .getfield 149, 3), (48, .iload_n 1, 1), (49, .iload_n 3, 1), (50, .iastore, 1), (51, .aload_n 0, 1), (52, .getfield 76, 3), (55, .iconst 0, 1), (56, .putfield 94, 3), (59, .iconst 1, 1), (60, .ireturn, 1)]
def zx_m21 : zx_MD := (zx_t21, ((zx_fd zx_Fc0, zx_fd zx_Sc0, zx_fd zx_Cc0, zx_fd zx_Ic0, zx_has zx_Lc0, zx_fd [], 4, false, (0, 0), false), (zx_fd zx_Kc0, 1)))
/-- OperaHouse.chorus -/
def zx_t22 : List (Nat × Instr × Nat) := [(0, .iload_n 1, 1), (1, .iconst 0, 1), (2, .bipush 24, 2), (4, .invokestatic 108, 3), (7, .ifCond .eq 14, 3), (10, .iload_n 2, 1), (11, .iconst 0, 1), (12, .sipush 168, 3), (15, .invokestatic 108, 3), (18, .ifCond .ne 5, 3), (21, .iconst 0, 1), (22, .ireturn, 1),
    (23, .aload_n 0, 1), (24, .getfield 19, 3), (27, .iload_n 1, 1), (28, .putfield 80, 3), (31, .aload_n 0, 1), (32, .getfield 19, 3), (35, .iload_n 2, 1), (36, .putfield 84, 3), (39, .aload_n 0, 1), (40, .getfield 76, 3), (43, .iconst 0, 1), (44, .putfield 94, 3),
    (47, .iconst 1, 1), (48, .ireturn, 1)]
def zx_m22 : zx_MD := (zx_t22, ((zx_fd zx_Fc0, zx_fd zx_Sc0, zx_fd zx_Cc0, zx_fd zx_Ic0, zx_has zx_Lc0, zx_fd [], 3, false, (0, 0), false), (zx_fd zx_Kc0, 1)))
/-- OperaHouse.contract -/
def zx_t23 : List (Nat × Instr × Nat) := [(0, .aload_n 0, 1), (1, .invokevirtual 101, 3), (4, .istore_n 2, 1), (5, .aload_n 0, 1), (6, .getfield 19, 3), (9, .iload_n 1, 1), (10, .invokevirtual 152, 3), (13, .ifCond .ne 7, 3), (16, .sipush (-1000), 3), (19, .ireturn, 1), (20, .aload_n 0, 1), (21, .getfield 19, 3),
    (24, .getfield 156, 3), (27, .iload_n 1, 1), (28, .aaload, 1), (29, .astore_n 3, 1), (30, .aload_n 0, 1), (31, .getfield 49, 3), (34, .iload_n 2, 1), (35, .aload_n 0, 1), (36, .getfield 19, 3), (39, .getfield 160, 3), (42, .invokevirtual 164, 3), (45, .istore 4, 2),
    (47, .aload_n 0, 1), (48, .aload_n 0, 1), (49, .getfield 49, 3), (52, .getfield 168, 3), (55, .putfield 171, 3), (58, .aload_n 0, 1), (59, .getfield 171, 3), (62, .ifCond .ne 35, 3), (65, .aload_n 0, 1), (66, .getfield 19, 3), (69, .getfield 156, 3), (72, .iload_n 1, 1),
    (73, .aload_n 0, 1), (74, .getfield 19, 3), (77, .getfield 160, 3), (80, .aastore, 1), (81, .aload_n 0, 1), (82, .getfield 19, 3), (85, .aload_n 3, 1), (86, .putfield 160, 3), (89, .aload_n 0, 1), (90, .getfield 76, 3), (93, .iconst 0, 1), (94, .putfield 94, 3),
    (97, .iload 4, 2), (99, .ireturn, 1)]
def zx_m23 : zx_MD := (zx_t23, ((zx_fd zx_Fc0, zx_fd zx_Sc0, zx_fd zx_Cc0, zx_fd zx_Ic0, zx_has zx_Lc0, zx_fd [], 5, false, (0, 0), false), (zx_fd zx_Kc0, 0)))
/-- OperaHouse$House.isSinger -/
def zx_t24 : List (Nat × Instr × Nat) := [(0, .iload_n 1, 1), (1, .ifCond .lt 15, 3), (4, .iload_n 1, 1), (5, .aload_n 0, 1), (6, .getfield 56, 3), (9, .if_icmp .ge 7, 3), (12, .iconst 1, 1), (13, .goto 4, 3), (16, .iconst 0, 1), (17, .ireturn, 1)]
def zx_m24 : zx_MD := (zx_t24, ((zx_fd zx_Fc1, zx_fd zx_Sc1, zx_fd zx_Cc1, zx_fd zx_Ic1, zx_has zx_Lc1, zx_fd [], 2, false, (0, 0), false), (zx_fd zx_Kc1, 1)))
/-- OperaHouse.fault -/
def zx_t25 : List (Nat × Instr × Nat) := [(0, .aload_n 0, 1), (1, .getfield 171, 3), (4, .ireturn, 1)]
def zx_m25 : zx_MD := (zx_t25, ((zx_fd zx_Fc0, zx_fd zx_Sc0, zx_fd zx_Cc0, zx_fd zx_Ic0, zx_has zx_Lc0, zx_fd [], 1, false, (0, 0), false), (zx_fd zx_Kc0, 0)))
/-- OperaHouse.learn -/
def zx_t26 : List (Nat × Instr × Nat) := [(0, .aload_n 0, 1), (1, .getfield 19, 3), (4, .iload_n 1, 1), (5, .invokevirtual 152, 3), (8, .ifCond .eq 26, 3), (11, .aload_n 0, 1), (12, .getfield 19, 3), (15, .iload_n 2, 1), (16, .iload_n 3, 1), (17, .invokevirtual 174, 3), (20, .ifCond .eq 14, 3), (23, .iload 4, 2),
    (25, .iconst 1, 1), (26, .bipush 99, 2), (28, .invokestatic 108, 3), (31, .ifCond .ne 5, 3), (34, .iconst 0, 1), (35, .ireturn, 1), (36, .aload_n 0, 1), (37, .getfield 33, 3), (40, .getfield 178, 3), (43, .sipush 200, 3), (46, .if_icmp .lt 5, 3), (49, .iconst 0, 1),
    (50, .ireturn, 1), (51, .aload_n 0, 1), (52, .getfield 33, 3), (55, .iload_n 1, 1), (56, .bipush 72, 2), (58, .imul, 1), (59, .iload_n 2, 1), (60, .bipush 8, 2), (62, .imul, 1), (63, .iadd, 1), (64, .iload_n 3, 1), (65, .iadd, 1),
    (66, .iload 4, 2), (68, .aload_n 0, 1), (69, .getfield 98, 3), (72, .invokevirtual 181, 3), (75, .aload_n 0, 1), (76, .getfield 76, 3), (79, .iconst 0, 1), (80, .putfield 94, 3), (83, .iconst 1, 1), (84, .ireturn, 1)]
def zx_m26 : zx_MD := (zx_t26, ((zx_fd zx_Fc0, zx_fd zx_Sc0, zx_fd zx_Cc0, zx_fd zx_Ic0, zx_has zx_Lc0, zx_fd [], 5, false, (0, 0), false), (zx_fd zx_Kc0, 1)))
/-- OperaHouse$House.isOpera -/
def zx_t27 : List (Nat × Instr × Nat) := [(0, .iload_n 1, 1), (1, .ifCond .lt 15, 3), (4, .iload_n 1, 1), (5, .aload_n 0, 1), (6, .getfield 45, 3), (9, .if_icmp .ge 7, 3), (12, .iconst 1, 1), (13, .goto 4, 3), (16, .iconst 0, 1), (17, .ireturn, 1)]
def zx_m27 : zx_MD := (zx_t27, ((zx_fd zx_Fc1, zx_fd zx_Sc1, zx_fd zx_Cc1, zx_fd zx_Ic1, zx_has zx_Lc1, zx_fd [], 2, false, (0, 0), false), (zx_fd zx_Kc1, 1)))
/-- OperaHouse.call -/
def zx_t28 : List (Nat × Instr × Nat) := [(0, .aload_n 0, 1), (1, .getfield 26, 3), (4, .getfield 185, 3), (7, .bipush 60, 2), (9, .if_icmp .ge 15, 3), (12, .aload_n 0, 1), (13, .getfield 19, 3), (16, .iload 4, 2), (18, .invokevirtual 188, 3), (21, .ifCond .ne 5, 3), (24, .iconst (-1), 1), (25, .ireturn, 1),
    (26, .iload_n 1, 1), (27, .aload_n 0, 1), (28, .getfield 98, 3), (31, .bipush 29, 2), (33, .invokestatic 108, 3), (36, .ifCond .eq 22, 3), (39, .iload_n 3, 1), (40, .iconst 0, 1), (41, .iconst 3, 1), (42, .invokestatic 108, 3), (45, .ifCond .eq 13, 3), (48, .iload 5, 2),
    (50, .iconst 0, 1), (51, .iconst 3, 1), (52, .invokestatic 108, 3), (55, .ifCond .ne 5, 3), (58, .iconst (-1), 1), (59, .ireturn, 1), (60, .aload_n 0, 1), (61, .getfield 19, 3), (64, .iload_n 3, 1), (65, .iload 4, 2), (67, .invokevirtual 191, 3), (70, .istore 6, 2),
    (72, .iload_n 2, 1), (73, .iconst 0, 1), (74, .bipush 24, 2), (76, .iload 6, 2), (78, .isub, 1), (79, .invokestatic 108, 3), (82, .ifCond .ne 5, 3), (85, .iconst (-1), 1), (86, .ireturn, 1), (87, .aload_n 0, 1), (88, .getfield 26, 3), (91, .iload_n 1, 1),
    (92, .iload_n 2, 1), (93, .iload 6, 2), (95, .iload_n 3, 1), (96, .iload 4, 2), (98, .iload 5, 2), (100, .invokevirtual 195, 3), (103, .aload_n 0, 1), (104, .getfield 76, 3), (107, .iconst 0, 1), (108, .putfield 94, 3), (111, .aload_n 0, 1), (112, .getfield 26, 3),
    (115, .getfield 185, 3), (118, .iconst 1, 1), (119, .isub, 1), (120, .ireturn, 1)]
def zx_m28 : zx_MD := (zx_t28, ((zx_fd zx_Fc0, zx_fd zx_Sc0, zx_fd zx_Cc0, zx_fd zx_Ic0, zx_has zx_Lc0, zx_fd [], 7, false, (0, 0), false), (zx_fd zx_Kc0, 0)))
/-- OperaHouse.cast -/
def zx_t29 : List (Nat × Instr × Nat) := [(0, .aload_n 0, 1), (1, .iload_n 1, 1), (2, .iload_n 2, 1), (3, .invokevirtual 199, 3), (6, .ifCond .eq 19, 3), (9, .iload_n 3, 1), (10, .iconst (-1), 1), (11, .if_icmp .eq 16, 3), (14, .aload_n 0, 1), (15, .getfield 19, 3), (18, .iload_n 3, 1), (19, .invokevirtual 152, 3),
    (22, .ifCond .ne 5, 3), (25, .iconst 0, 1), (26, .ireturn, 1), (27, .aload_n 0, 1), (28, .getfield 26, 3), (31, .getfield 202, 3), (34, .iload_n 1, 1), (35, .iaload, 1), (36, .aload_n 0, 1), (37, .getfield 98, 3), (40, .if_icmp .lt 16, 3), (43, .aload_n 0, 1),
    (44, .getfield 33, 3), (47, .getfield 205, 3), (50, .sipush 400, 3), (53, .if_icmp .lt 5, 3), (56, .iconst 0, 1), (57, .ireturn, 1), (58, .aload_n 0, 1), (59, .getfield 33, 3), (62, .iload_n 1, 1), (63, .bipush 8, 2), (65, .imul, 1), (66, .iload_n 2, 1),
    (67, .iadd, 1), (68, .iload_n 3, 1), (69, .iload 4, 2), (71, .aload_n 0, 1), (72, .getfield 98, 3), (75, .invokevirtual 208, 3), (78, .aload_n 0, 1), (79, .getfield 76, 3), (82, .iconst 0, 1), (83, .putfield 94, 3), (86, .iconst 1, 1), (87, .ireturn, 1)]
def zx_m29 : zx_MD := (zx_t29, ((zx_fd zx_Fc0, zx_fd zx_Sc0, zx_fd zx_Cc0, zx_fd zx_Ic0, zx_has zx_Lc0, zx_fd [], 5, false, (0, 0), false), (zx_fd zx_Kc0, 1)))
/-- OperaHouse.isSpot -/
def zx_t30 : List (Nat × Instr × Nat) := [(0, .aload_n 0, 1), (1, .getfield 26, 3), (4, .iload_n 1, 1), (5, .invokevirtual 249, 3), (8, .ifCond .eq 27, 3), (11, .aload_n 0, 1), (12, .getfield 19, 3), (15, .aload_n 0, 1), (16, .getfield 26, 3), (19, .getfield 287, 3), (22, .iload_n 1, 1), (23, .iaload, 1),
    (24, .iload_n 2, 1), (25, .invokevirtual 174, 3), (28, .ifCond .eq 7, 3), (31, .iconst 1, 1), (32, .goto 4, 3), (35, .iconst 0, 1), (36, .ireturn, 1)]
def zx_m30 : zx_MD := (zx_t30, ((zx_fd zx_Fc0, zx_fd zx_Sc0, zx_fd zx_Cc0, zx_fd zx_Ic0, zx_has zx_Lc0, zx_fd [], 3, false, (0, 0), false), (zx_fd zx_Kc0, 1)))
/-- OperaHouse$Calls.has -/
def zx_t31 : List (Nat × Instr × Nat) := [(0, .iload_n 1, 1), (1, .ifCond .lt 15, 3), (4, .iload_n 1, 1), (5, .aload_n 0, 1), (6, .getfield 33, 3), (9, .if_icmp .ge 7, 3), (12, .iconst 1, 1), (13, .goto 4, 3), (16, .iconst 0, 1), (17, .ireturn, 1)]
def zx_m31 : zx_MD := (zx_t31, ((zx_fd zx_Fc4, zx_fd zx_Sc4, zx_fd zx_Cc4, zx_fd zx_Ic4, zx_has zx_Lc4, zx_fd [], 2, false, (0, 0), false), (zx_fd zx_Kc4, 1)))
/-- OperaHouse.ill -/
def zx_t32 : List (Nat × Instr × Nat) := [(0, .aload_n 0, 1), (1, .getfield 19, 3), (4, .iload_n 1, 1), (5, .invokevirtual 152, 3), (8, .ifCond .eq 23, 3), (11, .iload_n 2, 1), (12, .iconst 0, 1), (13, .bipush 29, 2), (15, .invokestatic 108, 3), (18, .ifCond .eq 13, 3), (21, .iload_n 3, 1), (22, .iload_n 2, 1),
    (23, .bipush 29, 2), (25, .invokestatic 108, 3), (28, .ifCond .ne 5, 3), (31, .iconst 0, 1), (32, .ireturn, 1), (33, .aload_n 0, 1), (34, .getfield 33, 3), (37, .getfield 212, 3), (40, .bipush 60, 2), (42, .if_icmp .lt 5, 3), (45, .iconst 0, 1), (46, .ireturn, 1),
    (47, .aload_n 0, 1), (48, .getfield 33, 3), (51, .iload_n 1, 1), (52, .iload_n 2, 1), (53, .iload_n 3, 1), (54, .aload_n 0, 1), (55, .getfield 98, 3), (58, .invokevirtual 215, 3), (61, .aload_n 0, 1), (62, .getfield 76, 3), (65, .iconst 0, 1), (66, .putfield 94, 3),
    (69, .iconst 1, 1), (70, .ireturn, 1)]
def zx_m32 : zx_MD := (zx_t32, ((zx_fd zx_Fc0, zx_fd zx_Sc0, zx_fd zx_Cc0, zx_fd zx_Ic0, zx_has zx_Lc0, zx_fd [], 4, false, (0, 0), false), (zx_fd zx_Kc0, 1)))
/-- OperaHouse.who -/
def zx_t33 : List (Nat × Instr × Nat) := [(0, .aload_n 0, 1), (1, .iload_n 1, 1), (2, .iload_n 2, 1), (3, .invokevirtual 199, 3), (6, .ifCond .ne 5, 3), (9, .iconst (-1), 1), (10, .ireturn, 1), (11, .aload_n 0, 1), (12, .getfield 33, 3), (15, .iload 4, 2), (17, .invokevirtual 219, 3), (20, .iload_n 1, 1),
    (21, .bipush 8, 2), (23, .imul, 1), (24, .iload_n 2, 1), (25, .iadd, 1), (26, .istore 5, 2), (28, .iload_n 3, 1), (29, .ifCond .eq 16, 3), (32, .aload_n 0, 1), (33, .getfield 33, 3), (36, .getfield 222, 3), (39, .iload 5, 2), (41, .iaload, 1),
    (42, .goto 13, 3), (45, .aload_n 0, 1), (46, .getfield 33, 3), (49, .getfield 225, 3), (52, .iload 5, 2), (54, .iaload, 1), (55, .ireturn, 1)]
def zx_m33 : zx_MD := (zx_t33, ((zx_fd zx_Fc0, zx_fd zx_Sc0, zx_fd zx_Cc0, zx_fd zx_Ic0, zx_has zx_Lc0, zx_fd [], 6, false, (0, 0), false), (zx_fd zx_Kc0, 0)))
/-- OperaHouse$Ledger.know -/
def zx_t34 : List (Nat × Instr × Nat) := [(0, .aload_n 0, 1), (1, .getfield 43, 3), (4, .iconst (-1), 1), (5, .invokestatic 75, 3), (8, .aload_n 0, 1), (9, .getfield 46, 3), (12, .iconst (-1), 1), (13, .invokestatic 75, 3), (16, .aload_n 0, 1), (17, .getfield 49, 3), (20, .iconst (-1), 1), (21, .invokestatic 75, 3),
    (24, .aload_n 0, 1), (25, .getfield 52, 3), (28, .iconst 0, 1), (29, .invokestatic 75, 3), (32, .aload_n 0, 1), (33, .getfield 55, 3), (36, .iconst 0, 1), (37, .invokestatic 75, 3), (40, .aload_n 0, 1), (41, .getfield 58, 3), (44, .iconst 0, 1), (45, .invokestatic 75, 3),
    (48, .iconst 0, 1), (49, .istore_n 2, 1), (50, .iload_n 2, 1), (51, .aload_n 0, 1), (52, .getfield 61, 3), (55, .if_icmp .ge 64, 3), (58, .aload_n 0, 1), (59, .getfield 18, 3), (62, .iload_n 2, 1), (63, .iaload, 1), (64, .iload_n 1, 1), (65, .if_icmp .gt 54, 3),
    (68, .aload_n 0, 1), (69, .getfield 21, 3), (72, .iload_n 2, 1), (73, .baload, 1), (74, .ifCond .eq 23, 3), (77, .aload_n 0, 1), (78, .getfield 49, 3), (81, .aload_n 0, 1), (82, .getfield 9, 3), (85, .iload_n 2, 1), (86, .iaload, 1), (87, .aload_n 0, 1),
    (88, .getfield 15, 3), (91, .iload_n 2, 1), (92, .iaload, 1), (93, .iastore, 1), (94, .goto 19, 3), (97, .aload_n 0, 1), (98, .aload_n 0, 1), (99, .getfield 9, 3), (102, .iload_n 2, 1), (103, .iaload, 1), (104, .aload_n 0, 1), (105, .getfield 15, 3),
    (108, .iload_n 2, 1), (109, .iaload, 1), (110, .invokevirtual 81, 3), (113, .iinc 2 1, 3), (116, .goto (-66), 3), (119, .iconst 0, 1), (120, .istore_n 2, 1), (121, .iload_n 2, 1), (122, .aload_n 0, 1), (123, .getfield 65, 3), (126, .if_icmp .ge 39, 3), (129, .aload_n 0, 1),
    (130, .getfield 31, 3), (133, .iload_n 2, 1), (134, .iaload, 1), (135, .iload_n 1, 1), (136, .if_icmp .gt 29, 3), (139, .aload_n 0, 1), (140, .getfield 55, 3), (143, .aload_n 0, 1), (144, .getfield 25, 3), (147, .iload_n 2, 1), (148, .iaload, 1), (149, .dup2, 1),
    (150, .iaload, 1), (151, .aload_n 0, 1), (152, .getfield 28, 3), (155, .iload_n 2, 1), (156, .iaload, 1), (157, .ior, 1), (158, .iastore, 1), (159, .iinc 2 1, 3), (162, .goto (-41), 3), (165, .iconst 0, 1), (166, .istore_n 2, 1), (167, .iload_n 2, 1),
    (168, .aload_n 0, 1), (169, .getfield 72, 3), (172, .if_icmp .ge 39, 3), (175, .aload_n 0, 1), (176, .getfield 40, 3), (179, .iload_n 2, 1), (180, .iaload, 1), (181, .iload_n 1, 1), (182, .if_icmp .gt 29, 3), (185, .aload_n 0, 1), (186, .getfield 58, 3), (189, .aload_n 0, 1),
    (190, .getfield 34, 3), (193, .iload_n 2, 1), (194, .iaload, 1), (195, .dup2, 1), (196, .iaload, 1), (197, .aload_n 0, 1), (198, .getfield 37, 3), (201, .iload_n 2, 1), (202, .iaload, 1), (203, .iadd, 1), (204, .iastore, 1), (205, .iinc 2 1, 3),
    (208, .goto (-41), 3), (211, .return_, 1)]
def zx_m34 : zx_MD := (zx_t34, ((zx_fd zx_Fc5, zx_fd zx_Sc5, zx_fd zx_Cc5, zx_fd zx_Ic5, zx_has zx_Lc5, zx_fd [], 3, false, (0, 0), false), (zx_fd zx_Kc5, 4)))
/-- java/util/Arrays.fill -/
def zx_t35 : List (Nat × Instr × Nat) := [(0, .iconst 0, 1), (1, .istore_n 2, 1), (2, .aload_n 0, 1), (3, .arraylength, 1), (4, .istore_n 3, 1), (5, .iload_n 2, 1), (6, .iload_n 3, 1), (7, .if_icmp .ge 13, 3), (10, .aload_n 0, 1), (11, .iload_n 2, 1), (12, .iload_n 1, 1), (13, .iastore, 1),
    (14, .iinc 2 1, 3), (17, .goto (-12), 3), (20, .return_, 1)]
def zx_m35 : zx_MD := (zx_t35, ((zx_fd zx_Fc11, zx_fd zx_Sc11, zx_fd zx_Cc11, zx_fd zx_Ic11, zx_has zx_Lc11, zx_fd [], 4, false, (0, 0), false), (zx_fd zx_Kc11, 4)))
/-- OperaHouse.wrong -/
def zx_t36 : List (Nat × Instr × Nat) := [(0, .aload_n 0, 1), (1, .getfield 33, 3), (4, .iload_n 1, 1), (5, .invokevirtual 219, 3), (8, .aload_n 0, 1), (9, .getfield 67, 3), (12, .invokevirtual 228, 3), (15, .aload_n 0, 1), (16, .aload_n 0, 1), (17, .getfield 67, 3), (20, .aload_n 0, 1), (21, .getfield 13, 3),
    (24, .invokevirtual 231, 3), (27, .putfield 235, 3), (30, .aload_n 0, 1), (31, .getfield 235, 3), (34, .ireturn, 1)]
def zx_m36 : zx_MD := (zx_t36, ((zx_fd zx_Fc0, zx_fd zx_Sc0, zx_fd zx_Cc0, zx_fd zx_Ic0, zx_has zx_Lc0, zx_fd [], 2, false, (0, 0), false), (zx_fd zx_Kc0, 0)))
/-- OperaHouse$Judge.run -/
def zx_t37 : List (Nat × Instr × Nat) := [(0, .aload_n 0, 1), (1, .getfield 9, 3), (4, .iconst 0, 1), (5, .invokestatic 35, 3), (8, .aload_n 0, 1), (9, .getfield 31, 3), (12, .getfield 41, 3), (15, .iconst 0, 1), (16, .invokestatic 35, 3), (19, .iconst 0, 1), (20, .istore_n 1, 1), (21, .iload_n 1, 1),
    (22, .aload_n 0, 1), (23, .getfield 19, 3), (26, .getfield 44, 3), (29, .if_icmp .ge 44, 3), (32, .aload_n 0, 1), (33, .getfield 19, 3), (36, .getfield 50, 3), (39, .iload_n 1, 1), (40, .iaload, 1), (41, .istore_n 2, 1), (42, .aload_n 0, 1), (43, .iload_n 1, 1),
    (44, .invokevirtual 53, 3), (47, .aload_n 0, 1), (48, .iload_n 2, 1), (49, .invokevirtual 57, 3), (52, .aload_n 0, 1), (53, .iload_n 1, 1), (54, .invokevirtual 60, 3), (57, .aload_n 0, 1), (58, .iload_n 1, 1), (59, .invokevirtual 63, 3), (62, .aload_n 0, 1), (63, .iload_n 2, 1),
    (64, .invokevirtual 66, 3), (67, .iinc 1 1, 3), (70, .goto (-49), 3), (73, .aload_n 0, 1), (74, .invokevirtual 69, 3), (77, .iconst 0, 1), (78, .istore_n 1, 1), (79, .iload_n 1, 1), (80, .aload_n 0, 1), (81, .getfield 15, 3), (84, .getfield 72, 3), (87, .if_icmp .ge 17, 3),
    (90, .aload_n 0, 1), (91, .getfield 31, 3), (94, .iload_n 1, 1), (95, .invokevirtual 77, 3), (98, .iinc 1 1, 3), (101, .goto (-22), 3), (104, .return_, 1)]
def zx_m37 : zx_MD := (zx_t37, ((zx_fd zx_Fc9, zx_fd zx_Sc9, zx_fd zx_Cc9, zx_fd zx_Ic9, zx_has zx_Lc9, zx_fd [], 3, false, (0, 0), false), (zx_fd zx_Kc9, 4)))
/-- OperaHouse$Judge.judgeSets -/
def zx_t38 : List (Nat × Instr × Nat) := [(0, .aload_n 0, 1), (1, .getfield 27, 3), (4, .invokevirtual 91, 3), (7, .iconst 0, 1), (8, .istore_n 1, 1), (9, .iconst 0, 1), (10, .istore_n 2, 1), (11, .iconst 0, 1), (12, .istore_n 3, 1), (13, .iload_n 3, 1), (14, .aload_n 0, 1), (15, .getfield 19, 3),
    (18, .getfield 44, 3), (21, .if_icmp .ge 150, 3), (24, .aload_n 0, 1), (25, .getfield 19, 3), (28, .getfield 50, 3), (31, .iload_n 3, 1), (32, .iaload, 1), (33, .istore 4, 2), (35, .aload_n 0, 1), (36, .getfield 19, 3), (39, .getfield 80, 3), (42, .iload 4, 2),
    (44, .iaload, 1), (45, .ifCond .ne 6, 3), (48, .goto 117, 3), (51, .iload_n 1, 1), (52, .iconst 0, 1), (53, .aload_n 0, 1), (54, .getfield 19, 3), (57, .getfield 96, 3), (60, .iload 4, 2), (62, .iaload, 1), (63, .iload_n 2, 1), (64, .isub, 1),
    (65, .invokestatic 99, 3), (68, .iadd, 1), (69, .istore_n 1, 1), (70, .iload_n 2, 1), (71, .aload_n 0, 1), (72, .getfield 19, 3), (75, .getfield 105, 3), (78, .iload 4, 2), (80, .iaload, 1), (81, .invokestatic 99, 3), (84, .istore_n 2, 1), (85, .aload_n 0, 1),
    (86, .getfield 19, 3), (89, .iload 4, 2), (91, .invokevirtual 87, 3), (94, .ifCond .eq 71, 3), (97, .aload_n 0, 1), (98, .getfield 27, 3), (101, .iload_n 1, 1), (102, .invokevirtual 108, 3), (105, .iconst 0, 1), (106, .istore_n 1, 1), (107, .aload_n 0, 1), (108, .getfield 15, 3),
    (111, .getfield 111, 3), (114, .aload_n 0, 1), (115, .getfield 19, 3), (118, .getfield 115, 3), (121, .iload 4, 2), (123, .iaload, 1), (124, .aaload, 1), (125, .getfield 117, 3), (128, .istore 5, 2), (130, .aload_n 0, 1), (131, .getfield 27, 3), (134, .iload 5, 2),
    (136, .invokevirtual 122, 3), (139, .ifCond .eq 15, 3), (142, .aload_n 0, 1), (143, .getfield 27, 3), (146, .iload 5, 2), (148, .invokevirtual 125, 3), (151, .goto 14, 3), (154, .aload_n 0, 1), (155, .getfield 9, 3), (158, .iload 4, 2), (160, .dup2, 1), (161, .iaload, 1),
    (162, .iconst 4, 1), (163, .ior, 1), (164, .iastore, 1), (165, .iinc 3 1, 3), (168, .goto (-155), 3), (171, .return_, 1)]
def zx_m38 : zx_MD := (zx_t38, ((zx_fd zx_Fc9, zx_fd zx_Sc9, zx_fd zx_Cc9, zx_fd zx_Ic9, zx_has zx_Lc9, zx_fd [], 6, false, (0, 0), false), (zx_fd zx_Kc9, 4)))
/-- OperaHouse$Wagons.reset -/
def zx_t39 : List (Nat × Instr × Nat) := [(0, .iconst 0, 1), (1, .istore_n 1, 1), (2, .iload_n 1, 1), (3, .sipush 625, 3), (6, .if_icmp .ge 16, 3), (9, .aload_n 0, 1), (10, .getfield 9, 3), (13, .iload_n 1, 1), (14, .iconst 0, 1), (15, .bastore, 1), (16, .iinc 1 1, 3), (19, .goto (-17), 3),
    (22, .aload_n 0, 1), (23, .iconst 0, 1), (24, .putfield 19, 3), (27, .aload_n 0, 1), (28, .sipush 430, 3), (31, .invokevirtual 23, 3), (34, .return_, 1)]
def zx_m39 : zx_MD := (zx_t39, ((zx_fd zx_Fc6, zx_fd zx_Sc6, zx_fd zx_Cc6, zx_fd zx_Ic6, zx_has zx_Lc6, zx_fd [], 2, false, (0, 0), false), (zx_fd zx_Kc6, 4)))
/-- OperaHouse$Wagons.reach -/
def zx_t40 : List (Nat × Instr × Nat) := [(0, .iload_n 1, 1), (1, .ifCond .lt 55, 3), (4, .iload_n 1, 1), (5, .sipush 625, 3), (8, .if_icmp .ge 48, 3), (11, .aload_n 0, 1), (12, .getfield 9, 3), (15, .iload_n 1, 1), (16, .baload, 1), (17, .ifCond .ne 39, 3), (20, .aload_n 0, 1), (21, .getfield 19, 3),
    (24, .bipush 120, 2), (26, .if_icmp .ge 30, 3), (29, .aload_n 0, 1), (30, .getfield 9, 3), (33, .iload_n 1, 1), (34, .iconst 1, 1), (35, .bastore, 1), (36, .aload_n 0, 1), (37, .getfield 15, 3), (40, .aload_n 0, 1), (41, .getfield 19, 3), (44, .iload_n 1, 1),
    (45, .iastore, 1), (46, .aload_n 0, 1), (47, .dup, 1), (48, .getfield 19, 3), (51, .iconst 1, 1), (52, .iadd, 1), (53, .putfield 19, 3), (56, .return_, 1)]
def zx_m40 : zx_MD := (zx_t40, ((zx_fd zx_Fc6, zx_fd zx_Sc6, zx_fd zx_Cc6, zx_fd zx_Ic6, zx_has zx_Lc6, zx_fd [], 2, false, (0, 0), false), (zx_fd zx_Kc6, 4)))
/-- OperaHouse$Wagons.spread -/
def zx_t41 : List (Nat × Instr × Nat) := [(0, .iconst 0, 1), (1, .istore_n 2, 1), (2, .iconst 0, 1), (3, .istore_n 3, 1), (4, .iload_n 3, 1), (5, .iload_n 1, 1), (6, .if_icmp .ge 53, 3), (9, .iload_n 2, 1), (10, .aload_n 0, 1), (11, .getfield 19, 3), (14, .if_icmp .ge 45, 3), (17, .aload_n 0, 1),
    (18, .getfield 19, 3), (21, .istore 4, 2), (23, .iload_n 2, 1), (24, .istore 5, 2), (26, .iload 5, 2), (28, .iload 4, 2), (30, .if_icmp .ge 20, 3), (33, .aload_n 0, 1), (34, .aload_n 0, 1), (35, .getfield 15, 3), (38, .iload 5, 2), (40, .iaload, 1),
    (41, .invokevirtual 27, 3), (44, .iinc 5 1, 3), (47, .goto (-21), 3), (50, .iload 4, 2), (52, .istore_n 2, 1), (53, .iinc 3 1, 3), (56, .goto (-52), 3), (59, .return_, 1)]
def zx_m41 : zx_MD := (zx_t41, ((zx_fd zx_Fc6, zx_fd zx_Sc6, zx_fd zx_Cc6, zx_fd zx_Ic6, zx_has zx_Lc6, zx_fd [], 6, false, (0, 0), false), (zx_fd zx_Kc6, 4)))
/-- OperaHouse$Wagons.moveAll -/
def zx_t42 : List (Nat × Instr × Nat) := [(0, .iload_n 1, 1), (1, .invokestatic 30, 3), (4, .istore_n 2, 1), (5, .iload_n 2, 1), (6, .ifCond .lt 8, 3), (9, .iload_n 2, 1), (10, .iconst 5, 1), (11, .if_icmp .lt 4, 3), (14, .return_, 1), (15, .iconst 0, 1), (16, .istore_n 3, 1), (17, .iload_n 3, 1),
    (18, .iconst 3, 1), (19, .if_icmp .ge 66, 3), (22, .getstatic 34, 3), (25, .iload_n 2, 1), (26, .iconst 3, 1), (27, .imul, 1), (28, .iload_n 3, 1), (29, .iadd, 1), (30, .iaload, 1), (31, .istore 4, 2), (33, .iconst 0, 1), (34, .istore 5, 2),
    (36, .iload 5, 2), (38, .getstatic 37, 3), (41, .arraylength, 1), (42, .if_icmp .ge 37, 3), (45, .iload 5, 2), (47, .iload_n 1, 1), (48, .invokestatic 40, 3), (51, .iload 4, 2), (53, .if_icmp .ne 20, 3), (56, .aload_n 0, 1), (57, .iload_n 1, 1), (58, .iload_n 2, 1),
    (59, .iload 4, 2), (61, .isub, 1), (62, .getstatic 37, 3), (65, .iload 5, 2), (67, .iaload, 1), (68, .imul, 1), (69, .iadd, 1), (70, .invokevirtual 23, 3), (73, .iinc 5 1, 3), (76, .goto (-40), 3), (79, .iinc 3 1, 3), (82, .goto (-65), 3),
    (85, .return_, 1)]
def zx_m42 : zx_MD := (zx_t42, ((zx_fd zx_Fc6, zx_fd zx_Sc6, zx_fd zx_Cc6, zx_fd zx_Ic6, zx_has zx_Lc6, zx_fd [], 6, false, (0, 0), false), (zx_fd zx_Kc6, 4)))
/-- OperaHouse$Wagons.freePlace -/
def zx_t43 : List (Nat × Instr × Nat) := [(0, .bipush 10, 2), (2, .istore_n 1, 1), (3, .iconst 0, 1), (4, .istore_n 2, 1), (5, .iload_n 2, 1), (6, .getstatic 37, 3), (9, .arraylength, 1), (10, .if_icmp .ge 17, 3), (13, .iload_n 1, 1), (14, .iload_n 2, 1), (15, .iload_n 0, 1), (16, .invokestatic 40, 3),
    (19, .isub, 1), (20, .istore_n 1, 1), (21, .iinc 2 1, 3), (24, .goto (-19), 3), (27, .iload_n 1, 1), (28, .ireturn, 1)]
def zx_m43 : zx_MD := (zx_t43, ((zx_fd zx_Fc6, zx_fd zx_Sc6, zx_fd zx_Cc6, zx_fd zx_Ic6, zx_has zx_Lc6, zx_fd [], 3, false, (0, 0), false), (zx_fd zx_Kc6, 0)))
/-- OperaHouse$Wagons.placeOf -/
def zx_t44 : List (Nat × Instr × Nat) := [(0, .iload_n 1, 1), (1, .getstatic 37, 3), (4, .iload_n 0, 1), (5, .iaload, 1), (6, .idiv, 1), (7, .iconst 5, 1), (8, .irem, 1), (9, .ireturn, 1)]
def zx_m44 : zx_MD := (zx_t44, ((zx_fd zx_Fc6, zx_fd zx_Sc6, zx_fd zx_Cc6, zx_fd zx_Ic6, zx_has zx_Lc6, zx_fd [], 2, false, (0, 0), false), (zx_fd zx_Kc6, 0)))
/-- OperaHouse$Wagons.canShow -/
def zx_t45 : List (Nat × Instr × Nat) := [(0, .iconst 0, 1), (1, .istore_n 2, 1), (2, .iload_n 2, 1), (3, .aload_n 0, 1), (4, .getfield 19, 3), (7, .if_icmp .ge 24, 3), (10, .iload_n 1, 1), (11, .aload_n 0, 1), (12, .getfield 15, 3), (15, .iload_n 2, 1), (16, .iaload, 1), (17, .invokestatic 40, 3),
    (20, .ifCond .ne 5, 3), (23, .iconst 1, 1), (24, .ireturn, 1), (25, .iinc 2 1, 3), (28, .goto (-26), 3), (31, .iconst 0, 1), (32, .ireturn, 1)]
def zx_m45 : zx_MD := (zx_t45, ((zx_fd zx_Fc6, zx_fd zx_Sc6, zx_fd zx_Cc6, zx_fd zx_Ic6, zx_has zx_Lc6, zx_fd [], 3, false, (0, 0), false), (zx_fd zx_Kc6, 1)))
/-- OperaHouse$Judge.list -/
def zx_t46 : List (Nat × Instr × Nat) := [(0, .iconst 0, 1), (1, .istore_n 2, 1), (2, .iconst 0, 1), (3, .istore_n 3, 1), (4, .iload_n 3, 1), (5, .aload_n 0, 1), (6, .getfield 19, 3), (9, .getfield 44, 3), (12, .if_icmp .ge 150, 3), (15, .aload_n 0, 1), (16, .getfield 19, 3), (19, .getfield 50, 3),
    (22, .iload_n 3, 1), (23, .iaload, 1), (24, .istore 4, 2), (26, .iconst 1, 1), (27, .istore 5, 2), (29, .iload 5, 2), (31, .bipush 16, 2), (33, .if_icmp .ge 123, 3), (36, .aload_n 0, 1), (37, .getfield 9, 3), (40, .iload 4, 2), (42, .iaload, 1),
    (43, .iload 5, 2), (45, .ishr, 1), (46, .iconst 1, 1), (47, .iand, 1), (48, .iconst 1, 1), (49, .if_icmp .ne 24, 3), (52, .iload_n 2, 1), (53, .aload_n 1, 1), (54, .arraylength, 1), (55, .if_icmp .ge 18, 3), (58, .aload_n 1, 1), (59, .iload_n 2, 1),
    (60, .iload 4, 2), (62, .sipush 256, 3), (65, .imul, 1), (66, .iload 5, 2), (68, .iadd, 1), (69, .iastore, 1), (70, .iinc 2 1, 3), (73, .iconst 0, 1), (74, .istore 6, 2), (76, .iload 6, 2), (78, .bipush 8, 2), (80, .if_icmp .ge 70, 3),
    (83, .iload 5, 2), (85, .bipush 7, 2), (87, .if_icmp .lt 63, 3), (90, .aload_n 0, 1), (91, .getfield 31, 3), (94, .getfield 41, 3), (97, .iload 4, 2), (99, .bipush 8, 2), (101, .imul, 1), (102, .iload 6, 2), (104, .iadd, 1), (105, .iaload, 1),
    (106, .iload 5, 2), (108, .ishr, 1), (109, .iconst 1, 1), (110, .iand, 1), (111, .iconst 1, 1), (112, .if_icmp .ne 32, 3), (115, .iload_n 2, 1), (116, .aload_n 1, 1), (117, .arraylength, 1), (118, .if_icmp .ge 26, 3), (121, .aload_n 1, 1), (122, .iload_n 2, 1),
    (123, .iload 4, 2), (125, .sipush 256, 3), (128, .imul, 1), (129, .iload 6, 2), (131, .iconst 1, 1), (132, .iadd, 1), (133, .bipush 16, 2), (135, .imul, 1), (136, .iadd, 1), (137, .iload 5, 2), (139, .iadd, 1), (140, .iastore, 1),
    (141, .iinc 2 1, 3), (144, .iinc 6 1, 3), (147, .goto (-71), 3), (150, .iinc 5 1, 3), (153, .goto (-124), 3), (156, .iinc 3 1, 3), (159, .goto (-155), 3), (162, .iload_n 2, 1), (163, .ireturn, 1)]
def zx_m46 : zx_MD := (zx_t46, ((zx_fd zx_Fc9, zx_fd zx_Sc9, zx_fd zx_Cc9, zx_fd zx_Ic9, zx_has zx_Lc9, zx_fd [], 7, false, (0, 0), false), (zx_fd zx_Kc9, 0)))
/-- OperaHouse.learned -/
def zx_t47 : List (Nat × Instr × Nat) := [(0, .aload_n 0, 1), (1, .getfield 19, 3), (4, .iload_n 1, 1), (5, .invokevirtual 152, 3), (8, .ifCond .eq 12, 3), (11, .aload_n 0, 1), (12, .iload_n 2, 1), (13, .iload_n 3, 1), (14, .invokevirtual 199, 3), (17, .ifCond .ne 5, 3), (20, .iconst (-1), 1), (21, .ireturn, 1),
    (22, .aload_n 0, 1), (23, .getfield 33, 3), (26, .iload 4, 2), (28, .invokevirtual 219, 3), (31, .aload_n 0, 1), (32, .getfield 58, 3), (35, .iload_n 1, 1), (36, .iload_n 2, 1), (37, .iload_n 3, 1), (38, .invokevirtual 245, 3), (41, .ireturn, 1)]
def zx_m47 : zx_MD := (zx_t47, ((zx_fd zx_Fc0, zx_fd zx_Sc0, zx_fd zx_Cc0, zx_fd zx_Ic0, zx_has zx_Lc0, zx_fd [], 5, false, (0, 0), false), (zx_fd zx_Kc0, 0)))
/-- OperaHouse.tired -/
def zx_t48 : List (Nat × Instr × Nat) := [(0, .aload_n 0, 1), (1, .getfield 19, 3), (4, .iload_n 1, 1), (5, .invokevirtual 152, 3), (8, .ifCond .eq 14, 3), (11, .aload_n 0, 1), (12, .getfield 26, 3), (15, .iload_n 2, 1), (16, .invokevirtual 249, 3), (19, .ifCond .ne 5, 3), (22, .iconst (-1), 1), (23, .ireturn, 1),
    (24, .aload_n 0, 1), (25, .getfield 33, 3), (28, .iload_n 3, 1), (29, .invokevirtual 219, 3), (32, .aload_n 0, 1), (33, .getfield 58, 3), (36, .iload_n 1, 1), (37, .iload_n 2, 1), (38, .invokevirtual 252, 3), (41, .ireturn, 1)]
def zx_m48 : zx_MD := (zx_t48, ((zx_fd zx_Fc0, zx_fd zx_Sc0, zx_fd zx_Cc0, zx_fd zx_Ic0, zx_has zx_Lc0, zx_fd [], 4, false, (0, 0), false), (zx_fd zx_Kc0, 0)))
/-- OperaHouse.fee -/
def zx_t49 : List (Nat × Instr × Nat) := [(0, .aload_n 0, 1), (1, .getfield 19, 3), (4, .iload_n 1, 1), (5, .invokevirtual 152, 3), (8, .ifCond .eq 14, 3), (11, .aload_n 0, 1), (12, .getfield 26, 3), (15, .iload_n 2, 1), (16, .invokevirtual 249, 3), (19, .ifCond .ne 5, 3), (22, .iconst (-1), 1), (23, .ireturn, 1),
    (24, .aload_n 0, 1), (25, .getfield 33, 3), (28, .iload_n 3, 1), (29, .invokevirtual 219, 3), (32, .aload_n 0, 1), (33, .getfield 58, 3), (36, .iload_n 1, 1), (37, .iload_n 2, 1), (38, .invokevirtual 255, 3), (41, .ireturn, 1)]
def zx_m49 : zx_MD := (zx_t49, ((zx_fd zx_Fc0, zx_fd zx_Sc0, zx_fd zx_Cc0, zx_fd zx_Ic0, zx_has zx_Lc0, zx_fd [], 4, false, (0, 0), false), (zx_fd zx_Kc0, 0)))
/-- OperaHouse.pay -/
def zx_t50 : List (Nat × Instr × Nat) := [(0, .aload_n 0, 1), (1, .getfield 19, 3), (4, .iload_n 1, 1), (5, .invokevirtual 152, 3), (8, .ifCond .eq 13, 3), (11, .iload_n 2, 1), (12, .iconst 0, 1), (13, .bipush 29, 2), (15, .invokestatic 108, 3), (18, .ifCond .ne 5, 3), (21, .iconst (-1), 1), (22, .ireturn, 1),
    (23, .aload_n 0, 1), (24, .getfield 33, 3), (27, .iload_n 3, 1), (28, .invokevirtual 219, 3), (31, .iconst 0, 1), (32, .istore 4, 2), (34, .iconst 0, 1), (35, .istore 5, 2), (37, .iload 5, 2), (39, .aload_n 0, 1), (40, .getfield 26, 3), (43, .getfield 185, 3),
    (46, .if_icmp .ge 38, 3), (49, .aload_n 0, 1), (50, .getfield 26, 3), (53, .getfield 202, 3), (56, .iload 5, 2), (58, .iaload, 1), (59, .iload_n 2, 1), (60, .if_icmp .gt 18, 3), (63, .iload 4, 2), (65, .aload_n 0, 1), (66, .getfield 58, 3), (69, .iload_n 1, 1),
    (70, .iload 5, 2), (72, .invokevirtual 255, 3), (75, .iadd, 1), (76, .istore 4, 2), (78, .iinc 5 1, 3), (81, .goto (-44), 3), (84, .iload 4, 2), (86, .ireturn, 1)]
def zx_m50 : zx_MD := (zx_t50, ((zx_fd zx_Fc0, zx_fd zx_Sc0, zx_fd zx_Cc0, zx_fd zx_Ic0, zx_has zx_Lc0, zx_fd [], 6, false, (0, 0), false), (zx_fd zx_Kc0, 0)))
/-- OperaHouse.moves -/
def zx_t51 : List (Nat × Instr × Nat) := [(0, .iload_n 1, 1), (1, .iconst 0, 1), (2, .iconst 3, 1), (3, .invokestatic 108, 3), (6, .ifCond .eq 13, 3), (9, .iload_n 2, 1), (10, .iconst 0, 1), (11, .bipush 40, 2), (13, .invokestatic 108, 3), (16, .ifCond .ne 5, 3), (19, .iconst (-1), 1), (20, .ireturn, 1),
    (21, .aload_n 0, 1), (22, .getfield 40, 3), (25, .iload_n 1, 1), (26, .iload_n 2, 1), (27, .invokevirtual 258, 3), (30, .ireturn, 1)]
def zx_m51 : zx_MD := (zx_t51, ((zx_fd zx_Fc0, zx_fd zx_Sc0, zx_fd zx_Cc0, zx_fd zx_Ic0, zx_has zx_Lc0, zx_fd [], 3, false, (0, 0), false), (zx_fd zx_Kc0, 0)))
/-- OperaHouse$Wagons.fewest -/
def zx_t52 : List (Nat × Instr × Nat) := [(0, .aload_n 0, 1), (1, .invokevirtual 44, 3), (4, .iconst 0, 1), (5, .istore_n 3, 1), (6, .iload_n 3, 1), (7, .iload_n 2, 1), (8, .if_icmp .gt 24, 3), (11, .aload_n 0, 1), (12, .iload_n 1, 1), (13, .invokevirtual 47, 3), (16, .ifCond .eq 5, 3), (19, .iload_n 3, 1),
    (20, .ireturn, 1), (21, .aload_n 0, 1), (22, .iconst 1, 1), (23, .invokevirtual 51, 3), (26, .iinc 3 1, 3), (29, .goto (-23), 3), (32, .iconst (-1), 1), (33, .ireturn, 1)]
def zx_m52 : zx_MD := (zx_t52, ((zx_fd zx_Fc6, zx_fd zx_Sc6, zx_fd zx_Cc6, zx_fd zx_Ic6, zx_has zx_Lc6, zx_fd [], 4, false, (0, 0), false), (zx_fd zx_Kc6, 0)))
/-- OperaHouse.may -/
def zx_t53 : List (Nat × Instr × Nat) := [(0, .aload_n 0, 1), (1, .getfield 19, 3), (4, .iload_n 1, 1), (5, .invokevirtual 152, 3), (8, .ifCond .eq 12, 3), (11, .aload_n 0, 1), (12, .iload_n 2, 1), (13, .iload_n 3, 1), (14, .invokevirtual 199, 3), (17, .ifCond .ne 5, 3), (20, .iconst 0, 1), (21, .ireturn, 1),
    (22, .aload_n 0, 1), (23, .getfield 33, 3), (26, .aload_n 0, 1), (27, .getfield 98, 3), (30, .invokevirtual 219, 3), (33, .aload_n 0, 1), (34, .getfield 26, 3), (37, .getfield 202, 3), (40, .iload_n 2, 1), (41, .iaload, 1), (42, .aload_n 0, 1), (43, .getfield 98, 3),
    (46, .if_icmp .lt 20, 3), (49, .aload_n 0, 1), (50, .getfield 58, 3), (53, .iload_n 1, 1), (54, .iload_n 2, 1), (55, .iload_n 3, 1), (56, .invokevirtual 261, 3), (59, .ifCond .eq 7, 3), (62, .iconst 1, 1), (63, .goto 4, 3), (66, .iconst 0, 1), (67, .ireturn, 1)]
def zx_m53 : zx_MD := (zx_t53, ((zx_fd zx_Fc0, zx_fd zx_Sc0, zx_fd zx_Cc0, zx_fd zx_Ic0, zx_has zx_Lc0, zx_fd [], 4, false, (0, 0), false), (zx_fd zx_Kc0, 1)))
/-- OperaHouse.harm -/
def zx_t54 : List (Nat × Instr × Nat) := [(0, .aload_n 0, 1), (1, .getfield 19, 3), (4, .iload_n 1, 1), (5, .invokevirtual 152, 3), (8, .ifCond .eq 12, 3), (11, .aload_n 0, 1), (12, .iload_n 2, 1), (13, .iload_n 3, 1), (14, .invokevirtual 199, 3), (17, .ifCond .ne 5, 3), (20, .iconst (-1), 1), (21, .ireturn, 1),
    (22, .aload_n 0, 1), (23, .getfield 33, 3), (26, .aload_n 0, 1), (27, .getfield 98, 3), (30, .invokevirtual 219, 3), (33, .aload_n 0, 1), (34, .getfield 58, 3), (37, .iload_n 1, 1), (38, .iload_n 2, 1), (39, .iload_n 3, 1), (40, .invokevirtual 264, 3), (43, .ireturn, 1)]
def zx_m54 : zx_MD := (zx_t54, ((zx_fd zx_Fc0, zx_fd zx_Sc0, zx_fd zx_Cc0, zx_fd zx_Ic0, zx_has zx_Lc0, zx_fd [], 4, false, (0, 0), false), (zx_fd zx_Kc0, 0)))
/-- OperaHouse.instead -/
def zx_t55 : List (Nat × Instr × Nat) := [(0, .aload_n 0, 1), (1, .iload_n 1, 1), (2, .iload_n 2, 1), (3, .invokevirtual 199, 3), (6, .ifCond .eq 19, 3), (9, .aload_n 0, 1), (10, .getfield 26, 3), (13, .getfield 202, 3), (16, .iload_n 1, 1), (17, .iaload, 1), (18, .aload_n 0, 1), (19, .getfield 98, 3),
    (22, .if_icmp .ge 5, 3), (25, .iconst (-1), 1), (26, .ireturn, 1), (27, .aload_n 0, 1), (28, .getfield 33, 3), (31, .aload_n 0, 1), (32, .getfield 98, 3), (35, .invokevirtual 219, 3), (38, .iconst (-1), 1), (39, .istore_n 3, 1), (40, .iconst 0, 1), (41, .istore 4, 2),
    (43, .iconst 0, 1), (44, .istore 5, 2), (46, .iload 5, 2), (48, .aload_n 0, 1), (49, .getfield 19, 3), (52, .getfield 134, 3), (55, .if_icmp .ge 55, 3), (58, .aload_n 0, 1), (59, .getfield 58, 3), (62, .iload 5, 2), (64, .iload_n 1, 1), (65, .iload_n 2, 1),
    (66, .invokevirtual 261, 3), (69, .ifCond .eq 35, 3), (72, .aload_n 0, 1), (73, .getfield 58, 3), (76, .iload 5, 2), (78, .iload_n 1, 1), (79, .iload_n 2, 1), (80, .invokevirtual 264, 3), (83, .istore 6, 2), (85, .iload_n 3, 1), (86, .iconst (-1), 1), (87, .if_icmp .eq 10, 3),
    (90, .iload 6, 2), (92, .iload 4, 2), (94, .if_icmp .ge 10, 3), (97, .iload 5, 2), (99, .istore_n 3, 1), (100, .iload 6, 2), (102, .istore 4, 2), (104, .iinc 5 1, 3), (107, .goto (-61), 3), (110, .iload_n 3, 1), (111, .ireturn, 1)]
def zx_m55 : zx_MD := (zx_t55, ((zx_fd zx_Fc0, zx_fd zx_Sc0, zx_fd zx_Cc0, zx_fd zx_Ic0, zx_has zx_Lc0, zx_fd [], 7, false, (0, 0), false), (zx_fd zx_Kc0, 0)))
/-- OperaHouse.lay -/
def zx_t56 : List (Nat × Instr × Nat) := [(0, .aload_n 0, 1), (1, .invokevirtual 101, 3), (4, .istore 4, 2), (6, .aload_n 0, 1), (7, .getfield 76, 3), (10, .invokevirtual 267, 3), (13, .iload_n 1, 1), (14, .aload_n 0, 1), (15, .getfield 98, 3), (18, .bipush 29, 2), (20, .invokestatic 108, 3), (23, .ifCond .eq 13, 3),
    (26, .iload_n 2, 1), (27, .iload_n 1, 1), (28, .bipush 29, 2), (30, .invokestatic 108, 3), (33, .ifCond .ne 5, 3), (36, .iconst (-1), 1), (37, .ireturn, 1), (38, .aload_n 0, 1), (39, .getfield 76, 3), (42, .aload_n 0, 1), (43, .getfield 9, 3), (46, .iload 4, 2),
    (48, .iload_n 3, 1), (49, .invokevirtual 270, 3), (52, .ifCond .ne 5, 3), (55, .iconst (-1), 1), (56, .ireturn, 1), (57, .aload_n 0, 1), (58, .getfield 33, 3), (61, .aload_n 0, 1), (62, .getfield 98, 3), (65, .invokevirtual 219, 3), (68, .aload_n 0, 1), (69, .getfield 76, 3),
    (72, .iload_n 1, 1), (73, .iload_n 2, 1), (74, .invokevirtual 274, 3), (77, .ireturn, 1)]
def zx_m56 : zx_MD := (zx_t56, ((zx_fd zx_Fc0, zx_fd zx_Sc0, zx_fd zx_Cc0, zx_fd zx_Ic0, zx_has zx_Lc0, zx_fd [], 5, false, (0, 0), false), (zx_fd zx_Kc0, 0)))
/-- OperaHouse$Layer.forget -/
def zx_t57 : List (Nat × Instr × Nat) := [(0, .aload_n 0, 1), (1, .iconst 0, 1), (2, .putfield 43, 3), (5, .aload_n 0, 1), (6, .iconst 0, 1), (7, .putfield 47, 3), (10, .return_, 1)]
def zx_m57 : zx_MD := (zx_t57, ((zx_fd zx_Fc10, zx_fd zx_Sc10, zx_fd zx_Cc10, zx_fd zx_Ic10, zx_has zx_Lc10, zx_fd [], 1, false, (0, 0), false), (zx_fd zx_Kc10, 4)))
/-- OperaHouse$Layer.wish -/
def zx_t58 : List (Nat × Instr × Nat) := [(0, .iload_n 2, 1), (1, .iconst 1, 1), (2, .bipush 6, 2), (4, .invokestatic 51, 3), (7, .ifCond .eq 21, 3), (10, .aload_n 0, 1), (11, .getfield 31, 3), (14, .getfield 55, 3), (17, .iload_n 2, 1), (18, .iadd, 1), (19, .bipush 60, 2), (21, .if_icmp .gt 7, 3),
    (24, .iload_n 3, 1), (25, .ifCond .ge 5, 3), (28, .iconst 0, 1), (29, .ireturn, 1), (30, .iconst 0, 1), (31, .istore 4, 2), (33, .iload 4, 2), (35, .iload_n 2, 1), (36, .if_icmp .ge 76, 3), (39, .aload_n 0, 1), (40, .getfield 27, 3), (43, .aload_n 1, 1),
    (44, .iload 4, 2), (46, .iaload, 1), (47, .invokevirtual 60, 3), (50, .ifCond .eq 25, 3), (53, .iload_n 3, 1), (54, .bipush 24, 2), (56, .aload_n 0, 1), (57, .getfield 27, 3), (60, .getfield 66, 3), (63, .aload_n 1, 1), (64, .iload 4, 2), (66, .iaload, 1),
    (67, .aaload, 1), (68, .getfield 70, 3), (71, .isub, 1), (72, .if_icmp .le 5, 3), (75, .iconst 0, 1), (76, .ireturn, 1), (77, .aload_n 0, 1), (78, .getfield 9, 3), (81, .iload 4, 2), (83, .aload_n 1, 1), (84, .iload 4, 2), (86, .iaload, 1),
    (87, .iastore, 1), (88, .aload_n 0, 1), (89, .getfield 15, 3), (92, .iload 4, 2), (94, .aload_n 0, 1), (95, .getfield 31, 3), (98, .aload_n 1, 1), (99, .iload 4, 2), (101, .iaload, 1), (102, .invokevirtual 75, 3), (105, .iastore, 1), (106, .iinc 4 1, 3),
    (109, .goto (-76), 3), (112, .aload_n 0, 1), (113, .iload_n 2, 1), (114, .putfield 79, 3), (117, .aload_n 0, 1), (118, .iload_n 3, 1), (119, .putfield 82, 3), (122, .iconst 1, 1), (123, .ireturn, 1)]
def zx_m58 : zx_MD := (zx_t58, ((zx_fd zx_Fc10, zx_fd zx_Sc10, zx_fd zx_Cc10, zx_fd zx_Ic10, zx_has zx_Lc10, zx_fd [], 5, false, (0, 0), false), (zx_fd zx_Kc10, 1)))
/-- OperaHouse.laid -/
def zx_t59 : List (Nat × Instr × Nat) := [(0, .iload_n 1, 1), (1, .ifCond .lt 14, 3), (4, .iload_n 1, 1), (5, .aload_n 0, 1), (6, .getfield 76, 3), (9, .getfield 277, 3), (12, .if_icmp .lt 5, 3), (15, .iconst (-1), 1), (16, .ireturn, 1), (17, .aload_n 0, 1), (18, .getfield 76, 3), (21, .getfield 280, 3),
    (24, .iload_n 1, 1), (25, .iaload, 1), (26, .ireturn, 1)]
def zx_m59 : zx_MD := (zx_t59, ((zx_fd zx_Fc0, zx_fd zx_Sc0, zx_fd zx_Cc0, zx_fd zx_Ic0, zx_has zx_Lc0, zx_fd [], 2, false, (0, 0), false), (zx_fd zx_Kc0, 0)))
/-- OperaHouse.keep -/
def zx_t60 : List (Nat × Instr × Nat) := [(0, .aload_n 0, 1), (1, .getfield 76, 3), (4, .getfield 94, 3), (7, .ifCond .eq 13, 3), (10, .aload_n 0, 1), (11, .getfield 76, 3), (14, .getfield 277, 3), (17, .ifCond .ne 5, 3), (20, .iconst (-1), 1), (21, .ireturn, 1), (22, .aload_n 0, 1), (23, .getfield 33, 3),
    (26, .aload_n 0, 1), (27, .getfield 98, 3), (30, .invokevirtual 219, 3), (33, .aload_n 0, 1), (34, .getfield 33, 3), (37, .getfield 205, 3), (40, .aload_n 0, 1), (41, .getfield 76, 3), (44, .invokevirtual 281, 3), (47, .iadd, 1), (48, .sipush 400, 3), (51, .if_icmp .le 5, 3),
    (54, .iconst (-1), 1), (55, .ireturn, 1), (56, .aload_n 0, 1), (57, .getfield 76, 3), (60, .aload_n 0, 1), (61, .getfield 98, 3), (64, .invokevirtual 284, 3), (67, .aload_n 0, 1), (68, .getfield 76, 3), (71, .iconst 0, 1), (72, .putfield 94, 3), (75, .aload_n 0, 1),
    (76, .getfield 26, 3), (79, .getfield 185, 3), (82, .ireturn, 1)]
def zx_m60 : zx_MD := (zx_t60, ((zx_fd zx_Fc0, zx_fd zx_Sc0, zx_fd zx_Cc0, zx_fd zx_Ic0, zx_has zx_Lc0, zx_fd [], 1, false, (0, 0), false), (zx_fd zx_Kc0, 0)))
/-- OperaHouse.count -/
def zx_t61 : List (Nat × Instr × Nat) := [(0, .iload_n 1, 1), (1, .tableswitch 93 0 6 #[43, 48, 56, 64, 72, 80, 88], 43), (44, .aload_n 0, 1), (45, .getfield 98, 3), (48, .ireturn, 1), (49, .aload_n 0, 1), (50, .getfield 19, 3), (53, .getfield 105, 3), (56, .ireturn, 1), (57, .aload_n 0, 1), (58, .getfield 19, 3), (61, .getfield 134, 3),
    (64, .ireturn, 1), (65, .aload_n 0, 1), (66, .getfield 26, 3), (69, .getfield 185, 3), (72, .ireturn, 1), (73, .aload_n 0, 1), (74, .getfield 33, 3), (77, .getfield 205, 3), (80, .ireturn, 1), (81, .aload_n 0, 1), (82, .getfield 33, 3), (85, .getfield 212, 3),
    (88, .ireturn, 1), (89, .aload_n 0, 1), (90, .getfield 87, 3), (93, .ireturn, 1), (94, .iconst (-1), 1), (95, .ireturn, 1)]
def zx_m61 : zx_MD := (zx_t61, ((zx_fd zx_Fc0, zx_fd zx_Sc0, zx_fd zx_Cc0, zx_fd zx_Ic0, zx_has zx_Lc0, zx_fd [], 2, false, (0, 0), false), (zx_fd zx_Kc0, 0)))
/-- OperaHouseModel.<init> -/
def zx_t62 : List (Nat × Instr × Nat) := [(0, .aload_n 0, 1), (1, .invokespecial 1, 3), (4, .aload_n 0, 1), (5, .sipush 340, 3), (8, .newarray .byte, 2), (10, .putfield 7, 3), (13, .aload_n 0, 1), (14, .bipush 9, 2), (16, .newarray .int, 2), (18, .putfield 13, 3), (21, .aload_n 0, 1), (22, .bipush 9, 2),
    (24, .newarray .int, 2), (26, .putfield 17, 3), (29, .aload_n 0, 1), (30, .bipush 9, 2), (32, .newarray .int, 2), (34, .putfield 20, 3), (37, .aload_n 0, 1), (38, .bipush 36, 2), (40, .newarray .int, 2), (42, .putfield 23, 3), (45, .aload_n 0, 1), (46, .bipush 9, 2),
    (48, .newarray .int, 2), (50, .putfield 26, 3), (53, .aload_n 0, 1), (54, .bipush 72, 2), (56, .newarray .int, 2), (58, .putfield 29, 3), (61, .aload_n 0, 1), (62, .bipush 72, 2), (64, .newarray .int, 2), (66, .putfield 32, 3), (69, .aload_n 0, 1), (70, .bipush 72, 2),
    (72, .newarray .int, 2), (74, .putfield 35, 3), (77, .aload_n 0, 1), (78, .bipush 72, 2), (80, .newarray .int, 2), (82, .putfield 38, 3), (85, .aload_n 0, 1), (86, .bipush 9, 2), (88, .newarray .boolean, 2), (90, .putfield 41, 3), (93, .aload_n 0, 1), (94, .bipush 20, 2),
    (96, .newarray .int, 2), (98, .putfield 45, 3), (101, .aload_n 0, 1), (102, .bipush 20, 2), (104, .newarray .int, 2), (106, .putfield 48, 3), (109, .aload_n 0, 1), (110, .bipush 20, 2), (112, .newarray .int, 2), (114, .putfield 51, 3), (117, .aload_n 0, 1), (118, .bipush 8, 2),
    (120, .newarray .int, 2), (122, .putfield 54, 3), (125, .aload_n 0, 1), (126, .bipush 24, 2), (128, .putfield 57, 3), (131, .aload_n 0, 1), (132, .sipush 168, 3), (135, .putfield 61, 3), (138, .aload_n 0, 1), (139, .bipush 84, 2), (141, .newarray .int, 2), (143, .putfield 64, 3),
    (146, .aload_n 0, 1), (147, .bipush 21, 2), (149, .newarray .int, 2), (151, .putfield 67, 3), (154, .aload_n 0, 1), (155, .bipush 126, 2), (157, .newarray .int, 2), (159, .putfield 70, 3), (162, .aload_n 0, 1), (163, .bipush 126, 2), (165, .newarray .int, 2), (167, .putfield 73, 3),
    (170, .aload_n 0, 1), (171, .bipush 21, 2), (173, .newarray .int, 2), (175, .putfield 76, 3), (178, .aload_n 0, 1), (179, .sipush 168, 3), (182, .newarray .int, 2), (184, .putfield 79, 3), (187, .aload_n 0, 1), (188, .sipush 168, 3), (191, .newarray .int, 2), (193, .putfield 82, 3),
    (196, .aload_n 0, 1), (197, .sipush 168, 3), (200, .newarray .int, 2), (202, .putfield 85, 3), (205, .aload_n 0, 1), (206, .sipush 2100, 3), (209, .newarray .int, 2), (211, .putfield 88, 3), (214, .aload_n 0, 1), (215, .sipush 2100, 3), (218, .newarray .int, 2), (220, .putfield 91, 3),
    (223, .aload_n 0, 1), (224, .sipush 2100, 3), (227, .newarray .int, 2), (229, .putfield 94, 3), (232, .aload_n 0, 1), (233, .bipush 64, 2), (235, .newarray .int, 2), (237, .putfield 97, 3), (240, .aload_n 0, 1), (241, .sipush 200, 3), (244, .newarray .int, 2), (246, .putfield 100, 3),
    (249, .aload_n 0, 1), (250, .sipush 200, 3), (253, .newarray .int, 2), (255, .putfield 103, 3), (258, .aload_n 0, 1), (259, .sipush 200, 3), (262, .newarray .int, 2), (264, .putfield 106, 3), (267, .aload_n 0, 1), (268, .sipush 200, 3), (271, .newarray .int, 2), (273, .putfield 109, 3),
    (276, .aload_n 0, 1), (277, .bipush 60, 2), (279, .newarray .int, 2), (281, .putfield 112, 3), (284, .aload_n 0, 1), (285, .bipush 60, 2), (287, .newarray .int, 2), (289, .putfield 115, 3), (292, .aload_n 0, 1), (293, .bipush 60, 2), (295, .newarray .int, 2), (297, .putfield 118, 3),
    (300, .aload_n 0, 1), (301, .bipush 60, 2), (303, .newarray .int, 2), (305, .putfield 121, 3), (308, .aload_n 0, 1), (309, .sipush 400, 3), (312, .newarray .int, 2), (314, .putfield 124, 3), (317, .aload_n 0, 1), (318, .sipush 400, 3), (321, .newarray .int, 2), (323, .putfield 127, 3),
    (326, .aload_n 0, 1), (327, .sipush 400, 3), (330, .newarray .int, 2), (332, .putfield 130, 3), (335, .aload_n 0, 1), (336, .sipush 400, 3), (339, .newarray .int, 2), (341, .putfield 133, 3), (344, .aload_n 0, 1), (345, .bipush 66, 2), (347, .newarray .int, 2), (349, .putfield 136, 3),
    (352, .aload_n 0, 1), (353, .bipush 66, 2), (355, .newarray .int, 2), (357, .putfield 139, 3), (360, .aload_n 0, 1), (361, .bipush 66, 2), (363, .newarray .int, 2), (365, .putfield 142, 3), (368, .aload_n 0, 1), (369, .bipush 66, 2), (371, .newarray .int, 2), (373, .putfield 145, 3),
    (376, .aload_n 0, 1), (377, .bipush 66, 2), (379, .newarray .int, 2), (381, .putfield 148, 3), (384, .aload_n 0, 1), (385, .bipush 66, 2), (387, .newarray .int, 2), (389, .putfield 151, 3), (392, .aload_n 0, 1), (393, .sipush 400, 3), (396, .newarray .boolean, 2), (398, .putfield 154, 3),
    (401, .aload_n 0, 1), (402, .sipush 528, 3), (405, .newarray .int, 2), (407, .putfield 157, 3), (410, .aload_n 0, 1), (411, .sipush 528, 3), (414, .newarray .int, 2), (416, .putfield 160, 3), (419, .aload_n 0, 1), (420, .sipush 528, 3), (423, .newarray .int, 2), (425, .putfield 163, 3),
    (428, .aload_n 0, 1), (429, .bipush 66, 2), (431, .newarray .int, 2), (433, .putfield 166, 3), (436, .aload_n 0, 1), (437, .bipush 66, 2), (439, .newarray .int, 2), (441, .putfield 169, 3), (444, .aload_n 0, 1), (445, .bipush 66, 2), (447, .newarray .int, 2), (449, .putfield 172, 3),
    (452, .aload_n 0, 1), (453, .bipush 64, 2), (455, .newarray .boolean, 2), (457, .putfield 175, 3), (460, .aload_n 0, 1), (461, .sipush 625, 3), (464, .newarray .boolean, 2), (466, .putfield 178, 3), (469, .aload_n 0, 1), (470, .sipush 625, 3), (473, .newarray .boolean, 2), (475, .putfield 181, 3),
    (478, .aload_n 0, 1), (479, .sipush 721, 3), (482, .newarray .boolean, 2), (484, .putfield 184, 3), (487, .aload_n 0, 1), (488, .bipush 66, 2), (490, .newarray .boolean, 2), (492, .putfield 187, 3), (495, .aload_n 0, 1), (496, .sipush 5200, 3), (499, .newarray .int, 2), (501, .putfield 190, 3),
    (504, .aload_n 0, 1), (505, .sipush 5200, 3), (508, .newarray .int, 2), (510, .putfield 193, 3), (513, .aload_n 0, 1), (514, .sipush 5200, 3), (517, .newarray .int, 2), (519, .putfield 196, 3), (522, .aload_n 0, 1), (523, .sipush 9504, 3), (526, .newarray .boolean, 2), (528, .putfield 199, 3),
    (531, .aload_n 0, 1), (532, .sipush 5200, 3), (535, .newarray .int, 2), (537, .putfield 202, 3), (540, .aload_n 0, 1), (541, .sipush 5200, 3), (544, .newarray .int, 2), (546, .putfield 205, 3), (549, .aload_n 0, 1), (550, .sipush 5200, 3), (553, .newarray .int, 2), (555, .putfield 208, 3),
    (558, .aload_n 0, 1), (559, .bipush 6, 2), (561, .newarray .int, 2), (563, .putfield 211, 3), (566, .aload_n 0, 1), (567, .bipush 6, 2), (569, .newarray .int, 2), (571, .putfield 214, 3), (574, .aload_n 0, 1), (575, .bipush 6, 2), (577, .newarray .int, 2), (579, .putfield 217, 3),
    (582, .aload_n 0, 1), (583, .bipush 6, 2), (585, .newarray .int, 2), (587, .putfield 220, 3), (590, .aload_n 0, 1), (591, .iconst (-1), 1), (592, .putfield 223, 3), (595, .return_, 1)]
def zx_m62 : zx_MD := (zx_t62, ((zx_fd zx_Fic12, zx_fd zx_Sc12, zx_fd zx_Cc12, zx_fd zx_Ic12, zx_has zx_Lc12, zx_fd [(8, true, (-128), 127), (16, true, (-2147483648), 2147483647), (24, true, (-2147483648), 2147483647), (32, true, (-2147483648), 2147483647), (40, true, (-2147483648), 2147483647), (48, true, (-2147483648), 2147483647), (56, true, (-2147483648), 2147483647), (64, true, (-2147483648), 2147483647), (72, true, (-2147483648), 2147483647), (80, true, (-2147483648), 2147483647), (88, true, 0, 1), (96, true, (-2147483648), 2147483647), (104, true, (-2147483648), 2147483647), (112, true, (-2147483648), 2147483647), (120, true, (-2147483648), 2147483647), (141, true, (-2147483648), 2147483647), (149, true, (-2147483648), 2147483647), (157, true, (-2147483648), 2147483647), (165, true, (-2147483648), 2147483647), (173, true, (-2147483648), 2147483647), (182, true, (-2147483648), 2147483647), (191, true, (-2147483648), 2147483647), (200, true, (-2147483648), 2147483647), (209, true, (-2147483648), 2147483647), (218, true, (-2147483648), 2147483647), (227, true, (-2147483648), 2147483647), (235, true, (-2147483648), 2147483647), (244, true, (-2147483648), 2147483647), (253, true, (-2147483648), 2147483647), (262, true, (-2147483648), 2147483647), (271, true, (-2147483648), 2147483647), (279, true, (-2147483648), 2147483647), (287, true, (-2147483648), 2147483647), (295, true, (-2147483648), 2147483647), (303, true, (-2147483648), 2147483647), (312, true, (-2147483648), 2147483647), (321, true, (-2147483648), 2147483647), (330, true, (-2147483648), 2147483647), (339, true, (-2147483648), 2147483647), (347, true, (-2147483648), 2147483647), (355, true, (-2147483648), 2147483647), (363, true, (-2147483648), 2147483647), (371, true, (-2147483648), 2147483647), (379, true, (-2147483648), 2147483647), (387, true, (-2147483648), 2147483647), (396, true, 0, 1), (405, true, (-2147483648), 2147483647), (414, true, (-2147483648), 2147483647), (423, true, (-2147483648), 2147483647), (431, true, (-2147483648), 2147483647), (439, true, (-2147483648), 2147483647), (447, true, (-2147483648), 2147483647), (455, true, 0, 1), (464, false, 0, 0), (473, false, 0, 0), (482, true, 0, 1), (490, true, 0, 1), (499, true, (-2147483648), 2147483647), (508, true, (-2147483648), 2147483647), (517, true, (-2147483648), 2147483647), (526, true, 0, 1), (535, true, (-2147483648), 2147483647), (544, true, (-2147483648), 2147483647), (553, true, (-2147483648), 2147483647), (561, true, (-2147483648), 2147483647), (569, true, (-2147483648), 2147483647), (577, true, (-2147483648), 2147483647), (585, true, (-2147483648), 2147483647)], 1, true, (68, 56070), false), (zx_fd zx_Kc12, 4)))
/-- OperaHouseModel.thrown -/
def zx_t63 : List (Nat × Instr × Nat) := [(0, .aload_n 0, 1), (1, .getfield 226, 3), (4, .ireturn, 1)]
def zx_m63 : zx_MD := (zx_t63, ((zx_fd zx_Fc12, zx_fd zx_Sc12, zx_fd zx_Cc12, zx_fd zx_Ic12, zx_has zx_Lc12, zx_fd [], 1, false, (0, 0), false), (zx_fd zx_Kc12, 0)))
/-- OperaHouseModel.feed -/
def zx_t64 : List (Nat × Instr × Nat) := [(0, .aload_n 0, 1), (1, .iconst 0, 1), (2, .putfield 226, 3), (5, .aload_n 0, 1), (6, .getfield 229, 3), (9, .bipush 20, 2), (11, .iadd, 1), (12, .sipush 340, 3), (15, .if_icmp .le 5, 3), (18, .iconst (-1), 1), (19, .ireturn, 1), (20, .aload_n 0, 1),
    (21, .iload_n 1, 1), (22, .invokevirtual 232, 3), (25, .aload_n 0, 1), (26, .iload_n 2, 1), (27, .invokevirtual 232, 3), (30, .aload_n 0, 1), (31, .iload_n 3, 1), (32, .invokevirtual 232, 3), (35, .aload_n 0, 1), (36, .iload 4, 2), (38, .invokevirtual 232, 3), (41, .aload_n 0, 1),
    (42, .iload 5, 2), (44, .invokevirtual 232, 3), (47, .aload_n 0, 1), (48, .getfield 229, 3), (51, .ireturn, 1)]
def zx_m64 : zx_MD := (zx_t64, ((zx_fd zx_Fc12, zx_fd zx_Sc12, zx_fd zx_Cc12, zx_fd zx_Ic12, zx_has zx_Lc12, zx_fd [], 6, false, (0, 0), false), (zx_fd zx_Kc12, 0)))
/-- OperaHouseModel.four -/
def zx_t65 : List (Nat × Instr × Nat) := [(0, .bipush 24, 2), (2, .istore_n 2, 1), (3, .iload_n 2, 1), (4, .ifCond .lt 32, 3), (7, .aload_n 0, 1), (8, .getfield 7, 3), (11, .aload_n 0, 1), (12, .getfield 229, 3), (15, .iload_n 1, 1), (16, .iload_n 2, 1), (17, .ishr, 1), (18, .i2b, 1),
    (19, .bastore, 1), (20, .aload_n 0, 1), (21, .dup, 1), (22, .getfield 229, 3), (25, .iconst 1, 1), (26, .iadd, 1), (27, .putfield 229, 3), (30, .iinc 2 (-8), 3), (33, .goto (-30), 3), (36, .return_, 1)]
def zx_m65 : zx_MD := (zx_t65, ((zx_fd zx_Fc12, zx_fd zx_Sc12, zx_fd zx_Cc12, zx_fd zx_Ic12, zx_has zx_Lc12, zx_fd [], 3, false, (0, 0), false), (zx_fd zx_Kc12, 4)))
/-- OperaHouseModel.end -/
def zx_t66 : List (Nat × Instr × Nat) := [(0, .aload_n 0, 1), (1, .iconst 0, 1), (2, .putfield 226, 3), (5, .iload_n 1, 1), (6, .ifCond .lt 11, 3), (9, .iload_n 1, 1), (10, .aload_n 0, 1), (11, .getfield 229, 3), (14, .if_icmp .le 5, 3), (17, .iconst 0, 1), (18, .ireturn, 1), (19, .aload_n 0, 1),
    (20, .iload_n 1, 1), (21, .putfield 229, 3), (24, .iconst 1, 1), (25, .ireturn, 1)]
def zx_m66 : zx_MD := (zx_t66, ((zx_fd zx_Fc12, zx_fd zx_Sc12, zx_fd zx_Cc12, zx_fd zx_Ic12, zx_has zx_Lc12, zx_fd [], 2, false, (0, 0), false), (zx_fd zx_Kc12, 1)))
/-- OperaHouseModel.next -/
def zx_t67 : List (Nat × Instr × Nat) := [(0, .aload_n 0, 1), (1, .iconst 0, 1), (2, .putfield 226, 3), (5, .iload_n 1, 1), (6, .iconst 0, 1), (7, .bipush 29, 2), (9, .invokestatic 242, 3), (12, .ifCond .eq 14, 3), (15, .aload_n 0, 1), (16, .getfield 246, 3), (19, .iload_n 1, 1), (20, .iadd, 1),
    (21, .bipush 29, 2), (23, .if_icmp .le 5, 3), (26, .iconst (-1), 1), (27, .ireturn, 1), (28, .aload_n 0, 1), (29, .dup, 1), (30, .getfield 246, 3), (33, .iload_n 1, 1), (34, .iadd, 1), (35, .putfield 246, 3), (38, .aload_n 0, 1), (39, .dup, 1),
    (40, .getfield 249, 3), (43, .iconst 1, 1), (44, .iadd, 1), (45, .putfield 249, 3), (48, .aload_n 0, 1), (49, .getfield 246, 3), (52, .ireturn, 1)]
def zx_m67 : zx_MD := (zx_t67, ((zx_fd zx_Fc12, zx_fd zx_Sc12, zx_fd zx_Cc12, zx_fd zx_Ic12, zx_has zx_Lc12, zx_fd [], 2, false, (0, 0), false), (zx_fd zx_Kc12, 0)))
/-- OperaHouseModel.isIn -/
def zx_t68 : List (Nat × Instr × Nat) := [(0, .iload_n 0, 1), (1, .iload_n 1, 1), (2, .if_icmp .lt 12, 3), (5, .iload_n 0, 1), (6, .iload_n 2, 1), (7, .if_icmp .gt 7, 3), (10, .iconst 1, 1), (11, .goto 4, 3), (14, .iconst 0, 1), (15, .ireturn, 1)]
def zx_m68 : zx_MD := (zx_t68, ((zx_fd zx_Fc12, zx_fd zx_Sc12, zx_fd zx_Cc12, zx_fd zx_Ic12, zx_has zx_Lc12, zx_fd [], 3, false, (0, 0), false), (zx_fd zx_Kc12, 1)))
/-- OperaHouseModel.opera -/
def zx_t69 : List (Nat × Instr × Nat) := [(0, .aload_n 0, 1), (1, .iconst 0, 1), (2, .putfield 226, 3), (5, .aload_n 0, 1), (6, .invokevirtual 252, 3), (9, .aload_n 0, 1), (10, .getfield 255, 3), (13, .bipush 9, 2), (15, .if_icmp .eq 56, 3), (18, .iload_n 1, 1), (19, .iconst 2, 1), (20, .bipush 6, 2),
    (22, .invokestatic 242, 3), (25, .ifCond .eq 46, 3), (28, .iload_n 2, 1), (29, .iconst 0, 1), (30, .iconst 3, 1), (31, .invokestatic 242, 3), (34, .ifCond .eq 37, 3), (37, .iload 4, 2), (39, .iconst 1, 1), (40, .bipush 60, 2), (42, .invokestatic 242, 3), (45, .ifCond .eq 26, 3),
    (48, .aload_n 0, 1), (49, .getfield 236, 3), (52, .iconst 4, 1), (53, .irem, 1), (54, .ifCond .ne 17, 3), (57, .aload_n 0, 1), (58, .getfield 236, 3), (61, .bipush 8, 2), (63, .bipush 36, 2), (65, .invokestatic 242, 3), (68, .ifCond .ne 5, 3), (71, .iconst (-1), 1),
    (72, .ireturn, 1), (73, .iconst 0, 1), (74, .istore 5, 2), (76, .iload 5, 2), (78, .aload_n 0, 1), (79, .getfield 236, 3), (82, .if_icmp .ge 107, 3), (85, .iload 5, 2), (87, .iconst 4, 1), (88, .irem, 1), (89, .istore 6, 2), (91, .iload 5, 2),
    (93, .iconst 4, 1), (94, .if_icmp .ge 19, 3), (97, .aload_n 0, 1), (98, .getfield 7, 3), (101, .iload 5, 2), (103, .baload, 1), (104, .iconst 0, 1), (105, .bipush 40, 2), (107, .invokestatic 242, 3), (110, .goto 64, 3), (113, .iload 6, 2), (115, .ifCond .eq 9, 3),
    (118, .iload 6, 2), (120, .iconst 2, 1), (121, .if_icmp .ne 18, 3), (124, .aload_n 0, 1), (125, .getfield 7, 3), (128, .iload 5, 2), (130, .baload, 1), (131, .iconst 0, 1), (132, .iconst 5, 1), (133, .invokestatic 242, 3), (136, .goto 38, 3), (139, .iload 6, 2),
    (141, .iconst 1, 1), (142, .if_icmp .ne 19, 3), (145, .aload_n 0, 1), (146, .getfield 7, 3), (149, .iload 5, 2), (151, .baload, 1), (152, .iconst 1, 1), (153, .bipush 30, 2), (155, .invokestatic 242, 3), (158, .goto 16, 3), (161, .aload_n 0, 1), (162, .getfield 7, 3),
    (165, .iload 5, 2), (167, .baload, 1), (168, .iconst 0, 1), (169, .bipush 9, 2), (171, .invokestatic 242, 3), (174, .istore 7, 2), (176, .iload 7, 2), (178, .ifCond .ne 5, 3), (181, .iconst (-1), 1), (182, .ireturn, 1), (183, .iinc 5 1, 3), (186, .goto (-110), 3),
    (189, .aload_n 0, 1), (190, .getfield 255, 3), (193, .istore 5, 2), (195, .aload_n 0, 1), (196, .getfield 13, 3), (199, .iload 5, 2), (201, .iload_n 1, 1), (202, .iastore, 1), (203, .aload_n 0, 1), (204, .getfield 17, 3), (207, .iload 5, 2), (209, .iload_n 2, 1),
    (210, .iastore, 1), (211, .aload_n 0, 1), (212, .getfield 41, 3), (215, .iload 5, 2), (217, .iload_n 3, 1), (218, .bastore, 1), (219, .aload_n 0, 1), (220, .getfield 20, 3), (223, .iload 5, 2), (225, .iload 4, 2), (227, .iastore, 1), (228, .aload_n 0, 1),
    (229, .getfield 26, 3), (232, .iload 5, 2), (234, .aload_n 0, 1), (235, .getfield 236, 3), (238, .iconst 4, 1), (239, .idiv, 1), (240, .iconst 1, 1), (241, .isub, 1), (242, .iastore, 1), (243, .iconst 0, 1), (244, .istore 6, 2), (246, .iload 6, 2),
    (248, .iconst 4, 1), (249, .if_icmp .ge 28, 3), (252, .aload_n 0, 1), (253, .getfield 23, 3), (256, .iconst 4, 1), (257, .iload 5, 2), (259, .imul, 1), (260, .iload 6, 2), (262, .iadd, 1), (263, .aload_n 0, 1), (264, .getfield 7, 3), (267, .iload 6, 2),
    (269, .baload, 1), (270, .iastore, 1), (271, .iinc 6 1, 3), (274, .goto (-28), 3), (277, .iconst 0, 1), (278, .istore 6, 2), (280, .iload 6, 2), (282, .aload_n 0, 1), (283, .getfield 26, 3), (286, .iload 5, 2), (288, .iaload, 1), (289, .if_icmp .ge 107, 3),
    (292, .aload_n 0, 1), (293, .getfield 29, 3), (296, .bipush 8, 2), (298, .iload 5, 2), (300, .imul, 1), (301, .iload 6, 2), (303, .iadd, 1), (304, .aload_n 0, 1), (305, .getfield 7, 3), (308, .iconst 4, 1), (309, .iload 6, 2), (311, .imul, 1),
    (312, .iconst 4, 1), (313, .iadd, 1), (314, .baload, 1), (315, .iastore, 1), (316, .aload_n 0, 1), (317, .getfield 32, 3), (320, .bipush 8, 2), (322, .iload 5, 2), (324, .imul, 1), (325, .iload 6, 2), (327, .iadd, 1), (328, .aload_n 0, 1),
    (329, .getfield 7, 3), (332, .iconst 4, 1), (333, .iload 6, 2), (335, .imul, 1), (336, .iconst 5, 1), (337, .iadd, 1), (338, .baload, 1), (339, .iastore, 1), (340, .aload_n 0, 1), (341, .getfield 35, 3), (344, .bipush 8, 2), (346, .iload 5, 2),
    (348, .imul, 1), (349, .iload 6, 2), (351, .iadd, 1), (352, .aload_n 0, 1), (353, .getfield 7, 3), (356, .iconst 4, 1), (357, .iload 6, 2), (359, .imul, 1), (360, .bipush 6, 2), (362, .iadd, 1), (363, .baload, 1), (364, .iastore, 1),
    (365, .aload_n 0, 1), (366, .getfield 38, 3), (369, .bipush 8, 2), (371, .iload 5, 2), (373, .imul, 1), (374, .iload 6, 2), (376, .iadd, 1), (377, .aload_n 0, 1), (378, .getfield 7, 3), (381, .iconst 4, 1), (382, .iload 6, 2), (384, .imul, 1),
    (385, .bipush 7, 2), (387, .iadd, 1), (388, .baload, 1), (389, .iastore, 1), (390, .iinc 6 1, 3), (393, .goto (-113), 3), (396, .aload_n 0, 1), (397, .dup, 1), (398, .getfield 255, 3), (401, .iconst 1, 1), (402, .iadd, 1), (403, .putfield 255, 3),
    (406, .aload_n 0, 1), (407, .dup, 1), (408, .getfield 249, 3), (411, .iconst 1, 1), (412, .iadd, 1), (413, .putfield 249, 3), (416, .iload 5, 2), (418, .ireturn, 1)]
def zx_m69 : zx_MD := (zx_t69, ((zx_fd zx_Fc12, zx_fd zx_Sc12, zx_fd zx_Cc12, zx_fd zx_Ic12, zx_has zx_Lc12, zx_fd [], 8, false, (0, 0), false), (zx_fd zx_Kc12, 0)))
/-- OperaHouseModel.taken -/
def zx_t70 : List (Nat × Instr × Nat) := [(0, .aload_n 0, 1), (1, .aload_n 0, 1), (2, .getfield 229, 3), (5, .putfield 236, 3), (8, .aload_n 0, 1), (9, .iconst 0, 1), (10, .putfield 229, 3), (13, .aload_n 0, 1), (14, .iconst 0, 1), (15, .putfield 239, 3), (18, .return_, 1)]
def zx_m70 : zx_MD := (zx_t70, ((zx_fd zx_Fc12, zx_fd zx_Sc12, zx_fd zx_Cc12, zx_fd zx_Ic12, zx_has zx_Lc12, zx_fd [], 1, false, (0, 0), false), (zx_fd zx_Kc12, 4)))
/-- OperaHouseModel.singer -/
def zx_t71 : List (Nat × Instr × Nat) := [(0, .aload_n 0, 1), (1, .iconst 0, 1), (2, .putfield 226, 3), (5, .aload_n 0, 1), (6, .getfield 258, 3), (9, .bipush 20, 2), (11, .if_icmp .eq 33, 3), (14, .iload_n 1, 1), (15, .iconst 0, 1), (16, .bipush 63, 2), (18, .invokestatic 242, 3), (21, .ifCond .eq 23, 3),
    (24, .iload_n 2, 1), (25, .iconst 0, 1), (26, .bipush 63, 2), (28, .invokestatic 242, 3), (31, .ifCond .eq 13, 3), (34, .iload_n 3, 1), (35, .iconst 0, 1), (36, .bipush 9, 2), (38, .invokestatic 242, 3), (41, .ifCond .ne 5, 3), (44, .iconst (-1), 1), (45, .ireturn, 1),
    (46, .aload_n 0, 1), (47, .getfield 45, 3), (50, .aload_n 0, 1), (51, .getfield 258, 3), (54, .iload_n 1, 1), (55, .iastore, 1), (56, .aload_n 0, 1), (57, .getfield 48, 3), (60, .aload_n 0, 1), (61, .getfield 258, 3), (64, .iload_n 2, 1), (65, .iastore, 1),
    (66, .aload_n 0, 1), (67, .getfield 51, 3), (70, .aload_n 0, 1), (71, .getfield 258, 3), (74, .iload_n 3, 1), (75, .iastore, 1), (76, .aload_n 0, 1), (77, .aload_n 0, 1), (78, .getfield 258, 3), (81, .invokevirtual 261, 3), (84, .aload_n 0, 1), (85, .dup, 1),
    (86, .getfield 258, 3), (89, .iconst 1, 1), (90, .iadd, 1), (91, .putfield 258, 3), (94, .aload_n 0, 1), (95, .dup, 1), (96, .getfield 249, 3), (99, .iconst 1, 1), (100, .iadd, 1), (101, .putfield 249, 3), (104, .aload_n 0, 1), (105, .getfield 258, 3),
    (108, .iconst 1, 1), (109, .isub, 1), (110, .ireturn, 1)]
def zx_m71 : zx_MD := (zx_t71, ((zx_fd zx_Fc12, zx_fd zx_Sc12, zx_fd zx_Cc12, zx_fd zx_Ic12, zx_has zx_Lc12, zx_fd [], 4, false, (0, 0), false), (zx_fd zx_Kc12, 0)))
/-- OperaHouseModel.plain -/
def zx_t72 : List (Nat × Instr × Nat) := [(0, .aload_n 0, 1), (1, .getfield 64, 3), (4, .iconst 4, 1), (5, .iload_n 1, 1), (6, .imul, 1), (7, .bipush 12, 2), (9, .iastore, 1), (10, .aload_n 0, 1), (11, .getfield 64, 3), (14, .iconst 4, 1), (15, .iload_n 1, 1), (16, .imul, 1),
    (17, .iconst 1, 1), (18, .iadd, 1), (19, .bipush 8, 2), (21, .iastore, 1), (22, .aload_n 0, 1), (23, .getfield 64, 3), (26, .iconst 4, 1), (27, .iload_n 1, 1), (28, .imul, 1), (29, .iconst 2, 1), (30, .iadd, 1), (31, .iconst 4, 1),
    (32, .iastore, 1), (33, .aload_n 0, 1), (34, .getfield 64, 3), (37, .iconst 4, 1), (38, .iload_n 1, 1), (39, .imul, 1), (40, .iconst 3, 1), (41, .iadd, 1), (42, .bipush 100, 2), (44, .iastore, 1), (45, .aload_n 0, 1), (46, .getfield 67, 3),
    (49, .iload_n 1, 1), (50, .iconst 0, 1), (51, .iastore, 1), (52, .aload_n 0, 1), (53, .getfield 76, 3), (56, .iload_n 1, 1), (57, .iconst 0, 1), (58, .iastore, 1), (59, .return_, 1)]
def zx_m72 : zx_MD := (zx_t72, ((zx_fd zx_Fc12, zx_fd zx_Sc12, zx_fd zx_Cc12, zx_fd zx_Ic12, zx_has zx_Lc12, zx_fd [], 2, false, (0, 0), false), (zx_fd zx_Kc12, 4)))
/-- OperaHouseModel.players -/
def zx_t73 : List (Nat × Instr × Nat) := [(0, .aload_n 0, 1), (1, .iconst 0, 1), (2, .putfield 226, 3), (5, .iload_n 1, 1), (6, .iconst 0, 1), (7, .iconst 3, 1), (8, .invokestatic 242, 3), (11, .ifCond .eq 23, 3), (14, .iload_n 2, 1), (15, .iconst 0, 1), (16, .bipush 60, 2), (18, .invokestatic 242, 3),
    (21, .ifCond .eq 13, 3), (24, .iload_n 3, 1), (25, .iconst 0, 1), (26, .bipush 60, 2), (28, .invokestatic 242, 3), (31, .ifCond .ne 5, 3), (34, .iconst 0, 1), (35, .ireturn, 1), (36, .aload_n 0, 1), (37, .getfield 54, 3), (40, .iload_n 1, 1), (41, .iload_n 2, 1),
    (42, .iastore, 1), (43, .aload_n 0, 1), (44, .getfield 54, 3), (47, .iconst 4, 1), (48, .iload_n 1, 1), (49, .iadd, 1), (50, .iload_n 3, 1), (51, .iastore, 1), (52, .aload_n 0, 1), (53, .dup, 1), (54, .getfield 249, 3), (57, .iconst 1, 1),
    (58, .iadd, 1), (59, .putfield 249, 3), (62, .iconst 1, 1), (63, .ireturn, 1)]
def zx_m73 : zx_MD := (zx_t73, ((zx_fd zx_Fc12, zx_fd zx_Sc12, zx_fd zx_Cc12, zx_fd zx_Ic12, zx_has zx_Lc12, zx_fd [], 4, false, (0, 0), false), (zx_fd zx_Kc12, 1)))
/-- OperaHouseModel.chorus -/
def zx_t74 : List (Nat × Instr × Nat) := [(0, .aload_n 0, 1), (1, .iconst 0, 1), (2, .putfield 226, 3), (5, .iload_n 1, 1), (6, .iconst 0, 1), (7, .bipush 24, 2), (9, .invokestatic 242, 3), (12, .ifCond .eq 14, 3), (15, .iload_n 2, 1), (16, .iconst 0, 1), (17, .sipush 168, 3), (20, .invokestatic 242, 3),
    (23, .ifCond .ne 5, 3), (26, .iconst 0, 1), (27, .ireturn, 1), (28, .aload_n 0, 1), (29, .iload_n 1, 1), (30, .putfield 57, 3), (33, .aload_n 0, 1), (34, .iload_n 2, 1), (35, .putfield 61, 3), (38, .aload_n 0, 1), (39, .dup, 1), (40, .getfield 249, 3),
    (43, .iconst 1, 1), (44, .iadd, 1), (45, .putfield 249, 3), (48, .iconst 1, 1), (49, .ireturn, 1)]
def zx_m74 : zx_MD := (zx_t74, ((zx_fd zx_Fc12, zx_fd zx_Sc12, zx_fd zx_Cc12, zx_fd zx_Ic12, zx_has zx_Lc12, zx_fd [], 3, false, (0, 0), false), (zx_fd zx_Kc12, 1)))
/-- OperaHouseModel.contract -/
def zx_t75 : List (Nat × Instr × Nat) := [(0, .aload_n 0, 1), (1, .iconst 0, 1), (2, .putfield 226, 3), (5, .aload_n 0, 1), (6, .invokevirtual 252, 3), (9, .aload_n 0, 1), (10, .iload_n 1, 1), (11, .invokevirtual 310, 3), (14, .ifCond .ne 7, 3), (17, .sipush (-1000), 3), (20, .ireturn, 1), (21, .aload_n 0, 1),
    (22, .iconst 0, 1), (23, .putfield 295, 3), (26, .aload_n 0, 1), (27, .iconst 0, 1), (28, .putfield 313, 3), (31, .aload_n 0, 1), (32, .iconst 0, 1), (33, .putfield 316, 3), (36, .aload_n 0, 1), (37, .iconst 0, 1), (38, .putfield 319, 3), (41, .aload_n 0, 1),
    (42, .bipush 20, 2), (44, .invokevirtual 261, 3), (47, .iconst 0, 1), (48, .istore_n 2, 1), (49, .aload_n 0, 1), (50, .invokevirtual 307, 3), (53, .aload_n 0, 1), (54, .getfield 278, 3), (57, .ifCond .eq 32, 3), (60, .aload_n 0, 1), (61, .invokevirtual 322, 3), (64, .ifCond .eq 12, 3),
    (67, .aload_n 0, 1), (68, .bipush 59, 2), (70, .invokevirtual 326, 3), (73, .ifCond .ne 10, 3), (76, .iconst (-1), 1), (77, .aload_n 0, 1), (78, .getfield 298, 3), (81, .isub, 1), (82, .ireturn, 1), (83, .iinc 2 1, 3), (86, .goto (-33), 3), (89, .iconst 0, 1),
    (90, .istore_n 3, 1), (91, .iload_n 3, 1), (92, .iconst 4, 1), (93, .if_icmp .ge 28, 3), (96, .aload_n 0, 1), (97, .getfield 64, 3), (100, .iconst 4, 1), (101, .iload_n 1, 1), (102, .imul, 1), (103, .iload_n 3, 1), (104, .iadd, 1), (105, .aload_n 0, 1),
    (106, .getfield 64, 3), (109, .bipush 80, 2), (111, .iload_n 3, 1), (112, .iadd, 1), (113, .iaload, 1), (114, .iastore, 1), (115, .iinc 3 1, 3), (118, .goto (-27), 3), (121, .aload_n 0, 1), (122, .getfield 67, 3), (125, .iload_n 1, 1), (126, .aload_n 0, 1),
    (127, .getfield 67, 3), (130, .bipush 20, 2), (132, .iaload, 1), (133, .iastore, 1), (134, .iconst 0, 1), (135, .istore_n 3, 1), (136, .iload_n 3, 1), (137, .bipush 6, 2), (139, .if_icmp .ge 49, 3), (142, .aload_n 0, 1), (143, .getfield 70, 3), (146, .bipush 6, 2),
    (148, .iload_n 1, 1), (149, .imul, 1), (150, .iload_n 3, 1), (151, .iadd, 1), (152, .aload_n 0, 1), (153, .getfield 70, 3), (156, .bipush 120, 2), (158, .iload_n 3, 1), (159, .iadd, 1), (160, .iaload, 1), (161, .iastore, 1), (162, .aload_n 0, 1),
    (163, .getfield 73, 3), (166, .bipush 6, 2), (168, .iload_n 1, 1), (169, .imul, 1), (170, .iload_n 3, 1), (171, .iadd, 1), (172, .aload_n 0, 1), (173, .getfield 73, 3), (176, .bipush 120, 2), (178, .iload_n 3, 1), (179, .iadd, 1), (180, .iaload, 1),
    (181, .iastore, 1), (182, .iinc 3 1, 3), (185, .goto (-49), 3), (188, .aload_n 0, 1), (189, .getfield 76, 3), (192, .iload_n 1, 1), (193, .aload_n 0, 1), (194, .getfield 76, 3), (197, .bipush 20, 2), (199, .iaload, 1), (200, .iastore, 1), (201, .iconst 0, 1),
    (202, .istore_n 3, 1), (203, .iload_n 3, 1), (204, .bipush 8, 2), (206, .if_icmp .ge 72, 3), (209, .aload_n 0, 1), (210, .getfield 79, 3), (213, .bipush 8, 2), (215, .iload_n 1, 1), (216, .imul, 1), (217, .iload_n 3, 1), (218, .iadd, 1), (219, .aload_n 0, 1),
    (220, .getfield 79, 3), (223, .sipush 160, 3), (226, .iload_n 3, 1), (227, .iadd, 1), (228, .iaload, 1), (229, .iastore, 1), (230, .aload_n 0, 1), (231, .getfield 82, 3), (234, .bipush 8, 2), (236, .iload_n 1, 1), (237, .imul, 1), (238, .iload_n 3, 1),
    (239, .iadd, 1), (240, .aload_n 0, 1), (241, .getfield 82, 3), (244, .sipush 160, 3), (247, .iload_n 3, 1), (248, .iadd, 1), (249, .iaload, 1), (250, .iastore, 1), (251, .aload_n 0, 1), (252, .getfield 85, 3), (255, .bipush 8, 2), (257, .iload_n 1, 1),
    (258, .imul, 1), (259, .iload_n 3, 1), (260, .iadd, 1), (261, .aload_n 0, 1), (262, .getfield 85, 3), (265, .sipush 160, 3), (268, .iload_n 3, 1), (269, .iadd, 1), (270, .iaload, 1), (271, .iastore, 1), (272, .iinc 3 1, 3), (275, .goto (-72), 3),
    (278, .iconst 0, 1), (279, .istore_n 3, 1), (280, .iload_n 3, 1), (281, .aload_n 0, 1), (282, .getfield 316, 3), (285, .if_icmp .ge 72, 3), (288, .aload_n 0, 1), (289, .getfield 88, 3), (292, .bipush 100, 2), (294, .iload_n 1, 1), (295, .imul, 1), (296, .iload_n 3, 1),
    (297, .iadd, 1), (298, .aload_n 0, 1), (299, .getfield 88, 3), (302, .sipush 2000, 3), (305, .iload_n 3, 1), (306, .iadd, 1), (307, .iaload, 1), (308, .iastore, 1), (309, .aload_n 0, 1), (310, .getfield 91, 3), (313, .bipush 100, 2), (315, .iload_n 1, 1),
    (316, .imul, 1), (317, .iload_n 3, 1), (318, .iadd, 1), (319, .aload_n 0, 1), (320, .getfield 91, 3), (323, .sipush 2000, 3), (326, .iload_n 3, 1), (327, .iadd, 1), (328, .iaload, 1), (329, .iastore, 1), (330, .aload_n 0, 1), (331, .getfield 94, 3),
    (334, .bipush 100, 2), (336, .iload_n 1, 1), (337, .imul, 1), (338, .iload_n 3, 1), (339, .iadd, 1), (340, .aload_n 0, 1), (341, .getfield 94, 3), (344, .sipush 2000, 3), (347, .iload_n 3, 1), (348, .iadd, 1), (349, .iaload, 1), (350, .iastore, 1),
    (351, .iinc 3 1, 3), (354, .goto (-74), 3), (357, .aload_n 0, 1), (358, .dup, 1), (359, .getfield 249, 3), (362, .iconst 1, 1), (363, .iadd, 1), (364, .putfield 249, 3), (367, .iload_n 2, 1), (368, .ireturn, 1)]
def zx_m75 : zx_MD := (zx_t75, ((zx_fd zx_Fc12, zx_fd zx_Sc12, zx_fd zx_Cc12, zx_fd zx_Ic12, zx_has zx_Lc12, zx_fd [], 4, false, (0, 0), false), (zx_fd zx_Kc12, 0)))
/-- OperaHouseModel.isSinger -/
def zx_t76 : List (Nat × Instr × Nat) := [(0, .iload_n 1, 1), (1, .iconst 0, 1), (2, .aload_n 0, 1), (3, .getfield 258, 3), (6, .iconst 1, 1), (7, .isub, 1), (8, .invokestatic 242, 3), (11, .ireturn, 1)]
def zx_m76 : zx_MD := (zx_t76, ((zx_fd zx_Fc12, zx_fd zx_Sc12, zx_fd zx_Cc12, zx_fd zx_Ic12, zx_has zx_Lc12, zx_fd [], 2, false, (0, 0), false), (zx_fd zx_Kc12, 1)))
/-- OperaHouseModel.fault -/
def zx_t77 : List (Nat × Instr × Nat) := [(0, .aload_n 0, 1), (1, .iconst 0, 1), (2, .putfield 226, 3), (5, .aload_n 0, 1), (6, .getfield 295, 3), (9, .ireturn, 1)]
def zx_m77 : zx_MD := (zx_t77, ((zx_fd zx_Fc12, zx_fd zx_Sc12, zx_fd zx_Cc12, zx_fd zx_Ic12, zx_has zx_Lc12, zx_fd [], 1, false, (0, 0), false), (zx_fd zx_Kc12, 0)))
/-- OperaHouseModel.learn -/
def zx_t78 : List (Nat × Instr × Nat) := [(0, .aload_n 0, 1), (1, .iconst 0, 1), (2, .putfield 226, 3), (5, .aload_n 0, 1), (6, .iload_n 1, 1), (7, .invokevirtual 310, 3), (10, .ifCond .eq 33, 3), (13, .aload_n 0, 1), (14, .iload_n 2, 1), (15, .iload_n 3, 1), (16, .invokevirtual 413, 3), (19, .ifCond .eq 24, 3),
    (22, .iload 4, 2), (24, .iconst 1, 1), (25, .bipush 99, 2), (27, .invokestatic 242, 3), (30, .ifCond .eq 13, 3), (33, .aload_n 0, 1), (34, .getfield 417, 3), (37, .sipush 200, 3), (40, .if_icmp .ne 5, 3), (43, .iconst 0, 1), (44, .ireturn, 1), (45, .aload_n 0, 1),
    (46, .getfield 100, 3), (49, .aload_n 0, 1), (50, .getfield 417, 3), (53, .iload_n 1, 1), (54, .iastore, 1), (55, .aload_n 0, 1), (56, .getfield 103, 3), (59, .aload_n 0, 1), (60, .getfield 417, 3), (63, .bipush 8, 2), (65, .iload_n 2, 1), (66, .imul, 1),
    (67, .iload_n 3, 1), (68, .iadd, 1), (69, .iastore, 1), (70, .aload_n 0, 1), (71, .getfield 106, 3), (74, .aload_n 0, 1), (75, .getfield 417, 3), (78, .iload 4, 2), (80, .iastore, 1), (81, .aload_n 0, 1), (82, .getfield 109, 3), (85, .aload_n 0, 1),
    (86, .getfield 417, 3), (89, .aload_n 0, 1), (90, .getfield 246, 3), (93, .iastore, 1), (94, .aload_n 0, 1), (95, .dup, 1), (96, .getfield 417, 3), (99, .iconst 1, 1), (100, .iadd, 1), (101, .putfield 417, 3), (104, .aload_n 0, 1), (105, .dup, 1),
    (106, .getfield 249, 3), (109, .iconst 1, 1), (110, .iadd, 1), (111, .putfield 249, 3), (114, .iconst 1, 1), (115, .ireturn, 1)]
def zx_m78 : zx_MD := (zx_t78, ((zx_fd zx_Fc12, zx_fd zx_Sc12, zx_fd zx_Cc12, zx_fd zx_Ic12, zx_has zx_Lc12, zx_fd [], 5, false, (0, 0), false), (zx_fd zx_Kc12, 1)))
/-- OperaHouseModel.call -/
def zx_t79 : List (Nat × Instr × Nat) := [(0, .aload_n 0, 1), (1, .iconst 0, 1), (2, .putfield 226, 3), (5, .aload_n 0, 1), (6, .getfield 423, 3), (9, .bipush 60, 2), (11, .if_icmp .eq 74, 3), (14, .iload_n 1, 1), (15, .aload_n 0, 1), (16, .getfield 246, 3), (19, .bipush 29, 2), (21, .invokestatic 242, 3),
    (24, .ifCond .eq 61, 3), (27, .iload_n 2, 1), (28, .iconst 0, 1), (29, .bipush 23, 2), (31, .invokestatic 242, 3), (34, .ifCond .eq 51, 3), (37, .iload_n 3, 1), (38, .iconst 0, 1), (39, .iconst 3, 1), (40, .invokestatic 242, 3), (43, .ifCond .eq 42, 3), (46, .iload 4, 2),
    (48, .iconst 0, 1), (49, .aload_n 0, 1), (50, .getfield 255, 3), (53, .iconst 1, 1), (54, .isub, 1), (55, .invokestatic 242, 3), (58, .ifCond .eq 27, 3), (61, .iload 5, 2), (63, .iconst 0, 1), (64, .iconst 3, 1), (65, .invokestatic 242, 3), (68, .ifCond .eq 17, 3),
    (71, .iload_n 2, 1), (72, .aload_n 0, 1), (73, .iload_n 3, 1), (74, .iload 4, 2), (76, .invokevirtual 420, 3), (79, .iadd, 1), (80, .bipush 24, 2), (82, .if_icmp .le 5, 3), (85, .iconst (-1), 1), (86, .ireturn, 1), (87, .aload_n 0, 1), (88, .aload_n 0, 1),
    (89, .getfield 423, 3), (92, .iload_n 1, 1), (93, .iload_n 2, 1), (94, .iload_n 3, 1), (95, .iload 4, 2), (97, .iload 5, 2), (99, .invokevirtual 426, 3), (102, .aload_n 0, 1), (103, .dup, 1), (104, .getfield 423, 3), (107, .iconst 1, 1), (108, .iadd, 1),
    (109, .putfield 423, 3), (112, .aload_n 0, 1), (113, .dup, 1), (114, .getfield 249, 3), (117, .iconst 1, 1), (118, .iadd, 1), (119, .putfield 249, 3), (122, .aload_n 0, 1), (123, .getfield 423, 3), (126, .iconst 1, 1), (127, .isub, 1), (128, .ireturn, 1)]
def zx_m79 : zx_MD := (zx_t79, ((zx_fd zx_Fc12, zx_fd zx_Sc12, zx_fd zx_Cc12, zx_fd zx_Ic12, zx_has zx_Lc12, zx_fd [], 6, false, (0, 0), false), (zx_fd zx_Kc12, 0)))
/-- OperaHouseModel.cast -/
def zx_t80 : List (Nat × Instr × Nat) := [(0, .aload_n 0, 1), (1, .iconst 0, 1), (2, .putfield 226, 3), (5, .aload_n 0, 1), (6, .iload_n 1, 1), (7, .iload_n 2, 1), (8, .invokevirtual 433, 3), (11, .ifCond .eq 39, 3), (14, .iload_n 3, 1), (15, .iconst (-1), 1), (16, .if_icmp .eq 11, 3), (19, .aload_n 0, 1),
    (20, .iload_n 3, 1), (21, .invokevirtual 310, 3), (24, .ifCond .eq 26, 3), (27, .aload_n 0, 1), (28, .getfield 136, 3), (31, .iload_n 1, 1), (32, .iaload, 1), (33, .aload_n 0, 1), (34, .getfield 246, 3), (37, .if_icmp .lt 13, 3), (40, .aload_n 0, 1), (41, .getfield 430, 3),
    (44, .sipush 400, 3), (47, .if_icmp .ne 5, 3), (50, .iconst 0, 1), (51, .ireturn, 1), (52, .aload_n 0, 1), (53, .iload_n 1, 1), (54, .iload_n 2, 1), (55, .iload_n 3, 1), (56, .iload 4, 2), (58, .invokevirtual 436, 3), (61, .aload_n 0, 1), (62, .dup, 1),
    (63, .getfield 249, 3), (66, .iconst 1, 1), (67, .iadd, 1), (68, .putfield 249, 3), (71, .iconst 1, 1), (72, .ireturn, 1)]
def zx_m80 : zx_MD := (zx_t80, ((zx_fd zx_Fc12, zx_fd zx_Sc12, zx_fd zx_Cc12, zx_fd zx_Ic12, zx_has zx_Lc12, zx_fd [], 5, false, (0, 0), false), (zx_fd zx_Kc12, 1)))
/-- OperaHouseModel.isCallRole -/
def zx_t81 : List (Nat × Instr × Nat) := [(0, .iload_n 1, 1), (1, .iconst 0, 1), (2, .aload_n 0, 1), (3, .getfield 423, 3), (6, .iconst 1, 1), (7, .isub, 1), (8, .invokestatic 242, 3), (11, .ifCond .eq 21, 3), (14, .aload_n 0, 1), (15, .aload_n 0, 1), (16, .getfield 148, 3), (19, .iload_n 1, 1),
    (20, .iaload, 1), (21, .iload_n 2, 1), (22, .invokevirtual 413, 3), (25, .ifCond .eq 7, 3), (28, .iconst 1, 1), (29, .goto 4, 3), (32, .iconst 0, 1), (33, .ireturn, 1)]
def zx_m81 : zx_MD := (zx_t81, ((zx_fd zx_Fc12, zx_fd zx_Sc12, zx_fd zx_Cc12, zx_fd zx_Ic12, zx_has zx_Lc12, zx_fd [], 3, false, (0, 0), false), (zx_fd zx_Kc12, 1)))
/-- OperaHouseModel.ill -/
def zx_t82 : List (Nat × Instr × Nat) := [(0, .aload_n 0, 1), (1, .iconst 0, 1), (2, .putfield 226, 3), (5, .aload_n 0, 1), (6, .iload_n 1, 1), (7, .invokevirtual 310, 3), (10, .ifCond .eq 27, 3), (13, .iload_n 2, 1), (14, .ifCond .lt 23, 3), (17, .iload_n 3, 1), (18, .iload_n 2, 1), (19, .if_icmp .lt 18, 3),
    (22, .iload_n 3, 1), (23, .bipush 29, 2), (25, .if_icmp .gt 12, 3), (28, .aload_n 0, 1), (29, .getfield 440, 3), (32, .bipush 60, 2), (34, .if_icmp .ne 5, 3), (37, .iconst 0, 1), (38, .ireturn, 1), (39, .aload_n 0, 1), (40, .getfield 112, 3), (43, .aload_n 0, 1),
    (44, .getfield 440, 3), (47, .iload_n 1, 1), (48, .iastore, 1), (49, .aload_n 0, 1), (50, .getfield 115, 3), (53, .aload_n 0, 1), (54, .getfield 440, 3), (57, .iload_n 2, 1), (58, .iastore, 1), (59, .aload_n 0, 1), (60, .getfield 118, 3), (63, .aload_n 0, 1),
    (64, .getfield 440, 3), (67, .iload_n 3, 1), (68, .iastore, 1), (69, .aload_n 0, 1), (70, .getfield 121, 3), (73, .aload_n 0, 1), (74, .getfield 440, 3), (77, .aload_n 0, 1), (78, .getfield 246, 3), (81, .iastore, 1), (82, .aload_n 0, 1), (83, .dup, 1),
    (84, .getfield 440, 3), (87, .iconst 1, 1), (88, .iadd, 1), (89, .putfield 440, 3), (92, .aload_n 0, 1), (93, .dup, 1), (94, .getfield 249, 3), (97, .iconst 1, 1), (98, .iadd, 1), (99, .putfield 249, 3), (102, .iconst 1, 1), (103, .ireturn, 1)]
def zx_m82 : zx_MD := (zx_t82, ((zx_fd zx_Fc12, zx_fd zx_Sc12, zx_fd zx_Cc12, zx_fd zx_Ic12, zx_has zx_Lc12, zx_fd [], 4, false, (0, 0), false), (zx_fd zx_Kc12, 1)))
/-- OperaHouseModel.who -/
def zx_t83 : List (Nat × Instr × Nat) := [(0, .aload_n 0, 1), (1, .iconst 0, 1), (2, .putfield 226, 3), (5, .aload_n 0, 1), (6, .iload_n 1, 1), (7, .iload_n 2, 1), (8, .invokevirtual 433, 3), (11, .ifCond .ne 5, 3), (14, .iconst (-1), 1), (15, .ireturn, 1), (16, .aload_n 0, 1), (17, .iload 4, 2),
    (19, .invokevirtual 460, 3), (22, .iload_n 3, 1), (23, .ifCond .eq 17, 3), (26, .aload_n 0, 1), (27, .getfield 160, 3), (30, .bipush 8, 2), (32, .iload_n 1, 1), (33, .imul, 1), (34, .iload_n 2, 1), (35, .iadd, 1), (36, .iaload, 1), (37, .goto 14, 3),
    (40, .aload_n 0, 1), (41, .getfield 157, 3), (44, .bipush 8, 2), (46, .iload_n 1, 1), (47, .imul, 1), (48, .iload_n 2, 1), (49, .iadd, 1), (50, .iaload, 1), (51, .ireturn, 1)]
def zx_m83 : zx_MD := (zx_t83, ((zx_fd zx_Fc12, zx_fd zx_Sc12, zx_fd zx_Cc12, zx_fd zx_Ic12, zx_has zx_Lc12, zx_fd [], 5, false, (0, 0), false), (zx_fd zx_Kc12, 0)))
/-- OperaHouseModel.load -/
def zx_t84 : List (Nat × Instr × Nat) := [(0, .aload_n 0, 1), (1, .iload_n 1, 1), (2, .putfield 443, 3), (5, .aload_n 0, 1), (6, .aload_n 0, 1), (7, .getfield 423, 3), (10, .putfield 446, 3), (13, .iconst 0, 1), (14, .istore_n 2, 1), (15, .iload_n 2, 1), (16, .sipush 528, 3), (19, .if_icmp .ge 30, 3),
    (22, .aload_n 0, 1), (23, .getfield 157, 3), (26, .iload_n 2, 1), (27, .iconst (-1), 1), (28, .iastore, 1), (29, .aload_n 0, 1), (30, .getfield 160, 3), (33, .iload_n 2, 1), (34, .iconst (-1), 1), (35, .iastore, 1), (36, .aload_n 0, 1), (37, .getfield 163, 3),
    (40, .iload_n 2, 1), (41, .iconst (-1), 1), (42, .iastore, 1), (43, .iinc 2 1, 3), (46, .goto (-31), 3), (49, .iconst 0, 1), (50, .istore_n 2, 1), (51, .iload_n 2, 1), (52, .aload_n 0, 1), (53, .getfield 430, 3), (56, .if_icmp .ge 87, 3), (59, .aload_n 0, 1),
    (60, .getfield 133, 3), (63, .iload_n 2, 1), (64, .iaload, 1), (65, .iload_n 1, 1), (66, .if_icmp .le 6, 3), (69, .goto 68, 3), (72, .bipush 8, 2), (74, .aload_n 0, 1), (75, .getfield 124, 3), (78, .iload_n 2, 1), (79, .iaload, 1), (80, .imul, 1),
    (81, .aload_n 0, 1), (82, .getfield 127, 3), (85, .iload_n 2, 1), (86, .iaload, 1), (87, .iadd, 1), (88, .istore_n 3, 1), (89, .aload_n 0, 1), (90, .getfield 154, 3), (93, .iload_n 2, 1), (94, .baload, 1), (95, .ifCond .eq 18, 3), (98, .aload_n 0, 1),
    (99, .getfield 160, 3), (102, .iload_n 3, 1), (103, .aload_n 0, 1), (104, .getfield 130, 3), (107, .iload_n 2, 1), (108, .iaload, 1), (109, .iastore, 1), (110, .goto 27, 3), (113, .aload_n 0, 1), (114, .getfield 163, 3), (117, .iload_n 3, 1), (118, .aload_n 0, 1),
    (119, .getfield 157, 3), (122, .iload_n 3, 1), (123, .iaload, 1), (124, .iastore, 1), (125, .aload_n 0, 1), (126, .getfield 157, 3), (129, .iload_n 3, 1), (130, .aload_n 0, 1), (131, .getfield 130, 3), (134, .iload_n 2, 1), (135, .iaload, 1), (136, .iastore, 1),
    (137, .iinc 2 1, 3), (140, .goto (-89), 3), (143, .aload_n 0, 1), (144, .invokevirtual 449, 3), (147, .return_, 1)]
def zx_m84 : zx_MD := (zx_t84, ((zx_fd zx_Fc12, zx_fd zx_Sc12, zx_fd zx_Cc12, zx_fd zx_Ic12, zx_has zx_Lc12, zx_fd [], 4, false, (0, 0), false), (zx_fd zx_Kc12, 4)))
/-- OperaHouseModel.sort -/
def zx_t85 : List (Nat × Instr × Nat) := [(0, .iconst 0, 1), (1, .istore_n 1, 1), (2, .iload_n 1, 1), (3, .aload_n 0, 1), (4, .getfield 446, 3), (7, .if_icmp .ge 64, 3), (10, .iload_n 1, 1), (11, .istore_n 2, 1), (12, .iload_n 2, 1), (13, .ifCond .le 45, 3), (16, .aload_n 0, 1), (17, .getfield 139, 3),
    (20, .aload_n 0, 1), (21, .getfield 166, 3), (24, .iload_n 2, 1), (25, .iconst 1, 1), (26, .isub, 1), (27, .iaload, 1), (28, .iaload, 1), (29, .aload_n 0, 1), (30, .getfield 139, 3), (33, .iload_n 1, 1), (34, .iaload, 1), (35, .if_icmp .le 23, 3),
    (38, .aload_n 0, 1), (39, .getfield 166, 3), (42, .iload_n 2, 1), (43, .aload_n 0, 1), (44, .getfield 166, 3), (47, .iload_n 2, 1), (48, .iconst 1, 1), (49, .isub, 1), (50, .iaload, 1), (51, .iastore, 1), (52, .iinc 2 (-1), 3), (55, .goto (-43), 3),
    (58, .aload_n 0, 1), (59, .getfield 166, 3), (62, .iload_n 2, 1), (63, .iload_n 1, 1), (64, .iastore, 1), (65, .iinc 1 1, 3), (68, .goto (-66), 3), (71, .iconst 0, 1), (72, .istore_n 1, 1), (73, .iload_n 1, 1), (74, .aload_n 0, 1), (75, .getfield 446, 3),
    (78, .if_icmp .ge 26, 3), (81, .aload_n 0, 1), (82, .getfield 169, 3), (85, .aload_n 0, 1), (86, .getfield 166, 3), (89, .iload_n 1, 1), (90, .iaload, 1), (91, .iload_n 1, 1), (92, .iastore, 1), (93, .aload_n 0, 1), (94, .iload_n 1, 1), (95, .invokevirtual 452, 3),
    (98, .iinc 1 1, 3), (101, .goto (-28), 3), (104, .return_, 1)]
def zx_m85 : zx_MD := (zx_t85, ((zx_fd zx_Fc12, zx_fd zx_Sc12, zx_fd zx_Cc12, zx_fd zx_Ic12, zx_has zx_Lc12, zx_fd [], 3, false, (0, 0), false), (zx_fd zx_Kc12, 4)))
/-- OperaHouseModel.learned -/
def zx_t86 : List (Nat × Instr × Nat) := [(0, .aload_n 0, 1), (1, .iconst 0, 1), (2, .putfield 226, 3), (5, .aload_n 0, 1), (6, .iload_n 1, 1), (7, .invokevirtual 310, 3), (10, .ifCond .eq 12, 3), (13, .aload_n 0, 1), (14, .iload_n 2, 1), (15, .iload_n 3, 1), (16, .invokevirtual 433, 3), (19, .ifCond .ne 5, 3),
    (22, .iconst (-1), 1), (23, .ireturn, 1), (24, .aload_n 0, 1), (25, .iload 4, 2), (27, .invokevirtual 460, 3), (30, .aload_n 0, 1), (31, .iload_n 1, 1), (32, .iload_n 2, 1), (33, .iload_n 3, 1), (34, .invokevirtual 463, 3), (37, .ireturn, 1)]
def zx_m86 : zx_MD := (zx_t86, ((zx_fd zx_Fc12, zx_fd zx_Sc12, zx_fd zx_Cc12, zx_fd zx_Ic12, zx_has zx_Lc12, zx_fd [], 5, false, (0, 0), false), (zx_fd zx_Kc12, 0)))
/-- OperaHouseModel.tired -/
def zx_t87 : List (Nat × Instr × Nat) := [(0, .aload_n 0, 1), (1, .iconst 0, 1), (2, .putfield 226, 3), (5, .aload_n 0, 1), (6, .iload_n 1, 1), (7, .invokevirtual 310, 3), (10, .ifCond .eq 17, 3), (13, .iload_n 2, 1), (14, .iconst 0, 1), (15, .aload_n 0, 1), (16, .getfield 423, 3), (19, .iconst 1, 1),
    (20, .isub, 1), (21, .invokestatic 242, 3), (24, .ifCond .ne 5, 3), (27, .iconst (-1), 1), (28, .ireturn, 1), (29, .aload_n 0, 1), (30, .iload_n 3, 1), (31, .invokevirtual 460, 3), (34, .aload_n 0, 1), (35, .iload_n 1, 1), (36, .iload_n 2, 1), (37, .invokevirtual 467, 3),
    (40, .ireturn, 1)]
def zx_m87 : zx_MD := (zx_t87, ((zx_fd zx_Fc12, zx_fd zx_Sc12, zx_fd zx_Cc12, zx_fd zx_Ic12, zx_has zx_Lc12, zx_fd [], 4, false, (0, 0), false), (zx_fd zx_Kc12, 0)))
/-- OperaHouseModel.fee -/
def zx_t88 : List (Nat × Instr × Nat) := [(0, .aload_n 0, 1), (1, .iconst 0, 1), (2, .putfield 226, 3), (5, .aload_n 0, 1), (6, .iload_n 1, 1), (7, .invokevirtual 310, 3), (10, .ifCond .eq 17, 3), (13, .iload_n 2, 1), (14, .iconst 0, 1), (15, .aload_n 0, 1), (16, .getfield 423, 3), (19, .iconst 1, 1),
    (20, .isub, 1), (21, .invokestatic 242, 3), (24, .ifCond .ne 5, 3), (27, .iconst (-1), 1), (28, .ireturn, 1), (29, .aload_n 0, 1), (30, .iload_n 3, 1), (31, .invokevirtual 460, 3), (34, .aload_n 0, 1), (35, .iload_n 1, 1), (36, .iload_n 2, 1), (37, .invokevirtual 497, 3),
    (40, .ireturn, 1)]
def zx_m88 : zx_MD := (zx_t88, ((zx_fd zx_Fc12, zx_fd zx_Sc12, zx_fd zx_Cc12, zx_fd zx_Ic12, zx_has zx_Lc12, zx_fd [], 4, false, (0, 0), false), (zx_fd zx_Kc12, 0)))
/-- OperaHouseModel.pay -/
def zx_t89 : List (Nat × Instr × Nat) := [(0, .aload_n 0, 1), (1, .iconst 0, 1), (2, .putfield 226, 3), (5, .aload_n 0, 1), (6, .iload_n 1, 1), (7, .invokevirtual 310, 3), (10, .ifCond .eq 13, 3), (13, .iload_n 2, 1), (14, .iconst 0, 1), (15, .bipush 29, 2), (17, .invokestatic 242, 3), (20, .ifCond .ne 5, 3),
    (23, .iconst (-1), 1), (24, .ireturn, 1), (25, .aload_n 0, 1), (26, .iload_n 3, 1), (27, .invokevirtual 460, 3), (30, .iconst 0, 1), (31, .istore 4, 2), (33, .iconst 0, 1), (34, .istore 5, 2), (36, .iload 5, 2), (38, .aload_n 0, 1), (39, .getfield 423, 3),
    (42, .if_icmp .ge 36, 3), (45, .iload 4, 2), (47, .aload_n 0, 1), (48, .getfield 136, 3), (51, .iload 5, 2), (53, .iaload, 1), (54, .iload_n 2, 1), (55, .if_icmp .gt 13, 3), (58, .aload_n 0, 1), (59, .iload_n 1, 1), (60, .iload 5, 2), (62, .invokevirtual 497, 3),
    (65, .goto 4, 3), (68, .iconst 0, 1), (69, .iadd, 1), (70, .istore 4, 2), (72, .iinc 5 1, 3), (75, .goto (-39), 3), (78, .iload 4, 2), (80, .ireturn, 1)]
def zx_m89 : zx_MD := (zx_t89, ((zx_fd zx_Fc12, zx_fd zx_Sc12, zx_fd zx_Cc12, zx_fd zx_Ic12, zx_has zx_Lc12, zx_fd [], 6, false, (0, 0), false), (zx_fd zx_Kc12, 0)))
/-- OperaHouseModel.moves -/
def zx_t90 : List (Nat × Instr × Nat) := [(0, .aload_n 0, 1), (1, .iconst 0, 1), (2, .putfield 226, 3), (5, .iload_n 1, 1), (6, .iconst 0, 1), (7, .iconst 3, 1), (8, .invokestatic 242, 3), (11, .ifCond .eq 13, 3), (14, .iload_n 2, 1), (15, .iconst 0, 1), (16, .bipush 40, 2), (18, .invokestatic 242, 3),
    (21, .ifCond .ne 5, 3), (24, .iconst (-1), 1), (25, .ireturn, 1), (26, .aload_n 0, 1), (27, .invokevirtual 508, 3), (30, .iconst 0, 1), (31, .istore_n 3, 1), (32, .iload_n 3, 1), (33, .iload_n 2, 1), (34, .if_icmp .gt 28, 3), (37, .aload_n 0, 1), (38, .iload_n 1, 1),
    (39, .invokevirtual 511, 3), (42, .ifCond .eq 5, 3), (45, .iload_n 3, 1), (46, .ireturn, 1), (47, .aload_n 0, 1), (48, .invokevirtual 514, 3), (51, .ifCond .ne 5, 3), (54, .iconst (-1), 1), (55, .ireturn, 1), (56, .iinc 3 1, 3), (59, .goto (-27), 3), (62, .iconst (-1), 1),
    (63, .ireturn, 1)]
def zx_m90 : zx_MD := (zx_t90, ((zx_fd zx_Fc12, zx_fd zx_Sc12, zx_fd zx_Cc12, zx_fd zx_Ic12, zx_has zx_Lc12, zx_fd [], 4, false, (0, 0), false), (zx_fd zx_Kc12, 0)))
/-- OperaHouseModel.atFirst -/
def zx_t91 : List (Nat × Instr × Nat) := [(0, .iconst 0, 1), (1, .istore_n 1, 1), (2, .iload_n 1, 1), (3, .sipush 625, 3), (6, .if_icmp .ge 16, 3), (9, .aload_n 0, 1), (10, .getfield 178, 3), (13, .iload_n 1, 1), (14, .iconst 0, 1), (15, .bastore, 1), (16, .iinc 1 1, 3), (19, .goto (-17), 3),
    (22, .aload_n 0, 1), (23, .getfield 178, 3), (26, .sipush 430, 3), (29, .iconst 1, 1), (30, .bastore, 1), (31, .return_, 1)]
def zx_m91 : zx_MD := (zx_t91, ((zx_fd zx_Fc12, zx_fd zx_Sc12, zx_fd zx_Cc12, zx_fd zx_Ic12, zx_has zx_Lc12, zx_fd [], 2, false, (0, 0), false), (zx_fd zx_Kc12, 4)))
/-- OperaHouseModel.canStand -/
def zx_t92 : List (Nat × Instr × Nat) := [(0, .iconst 0, 1), (1, .istore_n 2, 1), (2, .iload_n 2, 1), (3, .sipush 625, 3), (6, .if_icmp .ge 28, 3), (9, .aload_n 0, 1), (10, .getfield 178, 3), (13, .iload_n 2, 1), (14, .baload, 1), (15, .ifCond .eq 13, 3), (18, .iload_n 2, 1), (19, .iload_n 1, 1),
    (20, .invokestatic 499, 3), (23, .ifCond .ne 5, 3), (26, .iconst 1, 1), (27, .ireturn, 1), (28, .iinc 2 1, 3), (31, .goto (-29), 3), (34, .iconst 0, 1), (35, .ireturn, 1)]
def zx_m92 : zx_MD := (zx_t92, ((zx_fd zx_Fc12, zx_fd zx_Sc12, zx_fd zx_Cc12, zx_fd zx_Ic12, zx_has zx_Lc12, zx_fd [], 3, false, (0, 0), false), (zx_fd zx_Kc12, 1)))
/-- OperaHouseModel.placeOf -/
def zx_t93 : List (Nat × Instr × Nat) := [(0, .iload_n 0, 1), (1, .iload_n 1, 1), (2, .ifCond .ne 7, 3), (5, .iconst 1, 1), (6, .goto 24, 3), (9, .iload_n 1, 1), (10, .iconst 1, 1), (11, .if_icmp .ne 7, 3), (14, .iconst 5, 1), (15, .goto 15, 3), (18, .iload_n 1, 1), (19, .iconst 2, 1),
    (20, .if_icmp .ne 8, 3), (23, .bipush 25, 2), (25, .goto 5, 3), (28, .bipush 125, 2), (30, .idiv, 1), (31, .iconst 5, 1), (32, .irem, 1), (33, .ireturn, 1)]
def zx_m93 : zx_MD := (zx_t93, ((zx_fd zx_Fc12, zx_fd zx_Sc12, zx_fd zx_Cc12, zx_fd zx_Ic12, zx_has zx_Lc12, zx_fd [], 2, false, (0, 0), false), (zx_fd zx_Kc12, 0)))
/-- OperaHouseModel.goOn -/
def zx_t94 : List (Nat × Instr × Nat) := [(0, .iconst 0, 1), (1, .istore_n 1, 1), (2, .iload_n 1, 1), (3, .sipush 625, 3), (6, .if_icmp .ge 21, 3), (9, .aload_n 0, 1), (10, .getfield 181, 3), (13, .iload_n 1, 1), (14, .aload_n 0, 1), (15, .getfield 178, 3), (18, .iload_n 1, 1), (19, .baload, 1),
    (20, .bastore, 1), (21, .iinc 1 1, 3), (24, .goto (-22), 3), (27, .iconst 0, 1), (28, .istore_n 1, 1), (29, .iconst 0, 1), (30, .istore_n 2, 1), (31, .iload_n 2, 1), (32, .sipush 625, 3), (35, .if_icmp .ge 109, 3), (38, .aload_n 0, 1), (39, .getfield 181, 3),
    (42, .iload_n 2, 1), (43, .baload, 1), (44, .ifCond .ne 6, 3), (47, .goto 91, 3), (50, .bipush 10, 2), (52, .iload_n 2, 1), (53, .iconst 0, 1), (54, .invokestatic 499, 3), (57, .isub, 1), (58, .iload_n 2, 1), (59, .iconst 1, 1), (60, .invokestatic 499, 3),
    (63, .isub, 1), (64, .iload_n 2, 1), (65, .iconst 2, 1), (66, .invokestatic 499, 3), (69, .isub, 1), (70, .iload_n 2, 1), (71, .iconst 3, 1), (72, .invokestatic 499, 3), (75, .isub, 1), (76, .istore_n 3, 1), (77, .iconst 0, 1), (78, .istore 4, 2),
    (80, .iload 4, 2), (82, .iconst 4, 1), (83, .if_icmp .ge 55, 3), (86, .iload_n 2, 1), (87, .iload 4, 2), (89, .invokestatic 499, 3), (92, .iload_n 3, 1), (93, .invokestatic 502, 3), (96, .ifCond .eq 36, 3), (99, .aload_n 0, 1), (100, .getfield 178, 3), (103, .iload_n 2, 1),
    (104, .iload 4, 2), (106, .iload_n 3, 1), (107, .invokestatic 505, 3), (110, .baload, 1), (111, .ifCond .eq 6, 3), (114, .goto 18, 3), (117, .aload_n 0, 1), (118, .getfield 178, 3), (121, .iload_n 2, 1), (122, .iload 4, 2), (124, .iload_n 3, 1), (125, .invokestatic 505, 3),
    (128, .iconst 1, 1), (129, .bastore, 1), (130, .iconst 1, 1), (131, .istore_n 1, 1), (132, .iinc 4 1, 3), (135, .goto (-55), 3), (138, .iinc 2 1, 3), (141, .goto (-110), 3), (144, .iload_n 1, 1), (145, .ireturn, 1)]
def zx_m94 : zx_MD := (zx_t94, ((zx_fd zx_Fc12, zx_fd zx_Sc12, zx_fd zx_Cc12, zx_fd zx_Ic12, zx_has zx_Lc12, zx_fd [], 5, false, (0, 0), false), (zx_fd zx_Kc12, 1)))
/-- OperaHouseModel.areNext -/
def zx_t95 : List (Nat × Instr × Nat) := [(0, .iload_n 0, 1), (1, .iload_n 1, 1), (2, .if_icmp .ge 7, 3), (5, .iload_n 0, 1), (6, .goto 4, 3), (9, .iload_n 1, 1), (10, .istore_n 2, 1), (11, .iload_n 0, 1), (12, .iload_n 1, 1), (13, .if_icmp .ge 7, 3), (16, .iload_n 1, 1), (17, .goto 4, 3),
    (20, .iload_n 0, 1), (21, .istore_n 3, 1), (22, .iload_n 2, 1), (23, .ifCond .ne 8, 3), (26, .iload_n 3, 1), (27, .iconst 4, 1), (28, .if_icmp .lt 18, 3), (31, .iload_n 3, 1), (32, .iconst 4, 1), (33, .if_icmp .ne 17, 3), (36, .iload_n 2, 1), (37, .iconst 1, 1),
    (38, .if_icmp .eq 8, 3), (41, .iload_n 2, 1), (42, .iconst 3, 1), (43, .if_icmp .ne 7, 3), (46, .iconst 1, 1), (47, .goto 4, 3), (50, .iconst 0, 1), (51, .ireturn, 1)]
def zx_m95 : zx_MD := (zx_t95, ((zx_fd zx_Fc12, zx_fd zx_Sc12, zx_fd zx_Cc12, zx_fd zx_Ic12, zx_has zx_Lc12, zx_fd [], 4, false, (0, 0), false), (zx_fd zx_Kc12, 1)))
/-- OperaHouseModel.moved -/
def zx_t96 : List (Nat × Instr × Nat) := [(0, .iload_n 0, 1), (1, .iload_n 2, 1), (2, .iload_n 0, 1), (3, .iload_n 1, 1), (4, .invokestatic 499, 3), (7, .isub, 1), (8, .iload_n 1, 1), (9, .ifCond .ne 7, 3), (12, .iconst 1, 1), (13, .goto 24, 3), (16, .iload_n 1, 1), (17, .iconst 1, 1),
    (18, .if_icmp .ne 7, 3), (21, .iconst 5, 1), (22, .goto 15, 3), (25, .iload_n 1, 1), (26, .iconst 2, 1), (27, .if_icmp .ne 8, 3), (30, .bipush 25, 2), (32, .goto 5, 3), (35, .bipush 125, 2), (37, .imul, 1), (38, .iadd, 1), (39, .ireturn, 1)]
def zx_m96 : zx_MD := (zx_t96, ((zx_fd zx_Fc12, zx_fd zx_Sc12, zx_fd zx_Cc12, zx_fd zx_Ic12, zx_has zx_Lc12, zx_fd [], 3, false, (0, 0), false), (zx_fd zx_Kc12, 0)))
/-- OperaHouseModel.wrong -/
def zx_t97 : List (Nat × Instr × Nat) := [(0, .aload_n 0, 1), (1, .iconst 0, 1), (2, .putfield 226, 3), (5, .aload_n 0, 1), (6, .iload_n 1, 1), (7, .invokevirtual 460, 3), (10, .aload_n 0, 1), (11, .invokevirtual 567, 3), (14, .aload_n 0, 1), (15, .aload_n 0, 1), (16, .getfield 551, 3), (19, .putfield 570, 3),
    (22, .iconst 0, 1), (23, .istore_n 2, 1), (24, .iload_n 2, 1), (25, .aload_n 0, 1), (26, .getfield 551, 3), (29, .if_icmp .ge 45, 3), (32, .aload_n 0, 1), (33, .getfield 202, 3), (36, .iload_n 2, 1), (37, .aload_n 0, 1), (38, .getfield 190, 3), (41, .iload_n 2, 1),
    (42, .iaload, 1), (43, .iastore, 1), (44, .aload_n 0, 1), (45, .getfield 205, 3), (48, .iload_n 2, 1), (49, .aload_n 0, 1), (50, .getfield 193, 3), (53, .iload_n 2, 1), (54, .iaload, 1), (55, .iastore, 1), (56, .aload_n 0, 1), (57, .getfield 208, 3),
    (60, .iload_n 2, 1), (61, .aload_n 0, 1), (62, .getfield 196, 3), (65, .iload_n 2, 1), (66, .iaload, 1), (67, .iastore, 1), (68, .iinc 2 1, 3), (71, .goto (-47), 3), (74, .aload_n 0, 1), (75, .getfield 551, 3), (78, .ireturn, 1)]
def zx_m97 : zx_MD := (zx_t97, ((zx_fd zx_Fc12, zx_fd zx_Sc12, zx_fd zx_Cc12, zx_fd zx_Ic12, zx_has zx_Lc12, zx_fd [], 3, false, (0, 0), false), (zx_fd zx_Kc12, 0)))
/-- OperaHouseModel.judge -/
def zx_t98 : List (Nat × Instr × Nat) := [(0, .aload_n 0, 1), (1, .iconst 0, 1), (2, .putfield 551, 3), (5, .aload_n 0, 1), (6, .invokevirtual 554, 3), (9, .iconst 0, 1), (10, .istore_n 1, 1), (11, .iload_n 1, 1), (12, .aload_n 0, 1), (13, .getfield 446, 3), (16, .if_icmp .ge 140, 3), (19, .aload_n 0, 1),
    (20, .getfield 166, 3), (23, .iload_n 1, 1), (24, .iaload, 1), (25, .istore_n 2, 1), (26, .iconst 1, 1), (27, .istore_n 3, 1), (28, .iload_n 3, 1), (29, .bipush 6, 2), (31, .if_icmp .gt 25, 3), (34, .aload_n 0, 1), (35, .iload_n 3, 1), (36, .iload_n 2, 1),
    (37, .invokevirtual 557, 3), (40, .ifCond .eq 10, 3), (43, .aload_n 0, 1), (44, .iload_n 3, 1), (45, .iload_n 2, 1), (46, .iconst (-1), 1), (47, .invokevirtual 560, 3), (50, .iinc 3 1, 3), (53, .goto (-25), 3), (56, .bipush 7, 2), (58, .istore_n 3, 1), (59, .iload_n 3, 1),
    (60, .bipush 15, 2), (62, .if_icmp .gt 88, 3), (65, .iconst 0, 1), (66, .istore 4, 2), (68, .iload 4, 2), (70, .aload_n 0, 1), (71, .getfield 26, 3), (74, .aload_n 0, 1), (75, .getfield 148, 3), (78, .iload_n 2, 1), (79, .iaload, 1), (80, .iaload, 1),
    (81, .if_icmp .ge 63, 3), (84, .aload_n 0, 1), (85, .getfield 157, 3), (88, .bipush 8, 2), (90, .iload_n 2, 1), (91, .imul, 1), (92, .iload 4, 2), (94, .iadd, 1), (95, .iaload, 1), (96, .istore 5, 2), (98, .iload_n 3, 1), (99, .bipush 7, 2),
    (101, .if_icmp .ne 11, 3), (104, .iload 5, 2), (106, .ifCond .ge 32, 3), (109, .goto 21, 3), (112, .iload 5, 2), (114, .ifCond .lt 24, 3), (117, .aload_n 0, 1), (118, .iload_n 3, 1), (119, .iload 5, 2), (121, .iload_n 2, 1), (122, .iload 4, 2), (124, .invokevirtual 563, 3),
    (127, .ifCond .eq 11, 3), (130, .aload_n 0, 1), (131, .iload_n 3, 1), (132, .iload_n 2, 1), (133, .iload 4, 2), (135, .invokevirtual 560, 3), (138, .iinc 4 1, 3), (141, .goto (-73), 3), (144, .iinc 3 1, 3), (147, .goto (-88), 3), (150, .iinc 1 1, 3), (153, .goto (-142), 3),
    (156, .return_, 1)]
def zx_m98 : zx_MD := (zx_t98, ((zx_fd zx_Fc12, zx_fd zx_Sc12, zx_fd zx_Cc12, zx_fd zx_Ic12, zx_has zx_Lc12, zx_fd [], 6, false, (0, 0), false), (zx_fd zx_Kc12, 4)))
/-- OperaHouseModel.roll -/
def zx_t99 : List (Nat × Instr × Nat) := [(0, .iconst 0, 1), (1, .istore_n 1, 1), (2, .iload_n 1, 1), (3, .sipush 721, 3), (6, .if_icmp .ge 16, 3), (9, .aload_n 0, 1), (10, .getfield 184, 3), (13, .iload_n 1, 1), (14, .iconst 0, 1), (15, .bastore, 1), (16, .iinc 1 1, 3), (19, .goto (-17), 3),
    (22, .iconst 0, 1), (23, .istore_n 1, 1), (24, .iload_n 1, 1), (25, .aload_n 0, 1), (26, .getfield 446, 3), (29, .if_icmp .ge 48, 3), (32, .aload_n 0, 1), (33, .getfield 139, 3), (36, .iload_n 1, 1), (37, .iaload, 1), (38, .istore_n 2, 1), (39, .iload_n 2, 1),
    (40, .aload_n 0, 1), (41, .getfield 142, 3), (44, .iload_n 1, 1), (45, .iaload, 1), (46, .if_icmp .ge 25, 3), (49, .aload_n 0, 1), (50, .getfield 145, 3), (53, .iload_n 1, 1), (54, .iaload, 1), (55, .ifCond .eq 16, 3), (58, .aload_n 0, 1), (59, .getfield 184, 3),
    (62, .iload_n 2, 1), (63, .iconst 1, 1), (64, .bastore, 1), (65, .iinc 2 1, 3), (68, .goto (-29), 3), (71, .iinc 1 1, 3), (74, .goto (-50), 3), (77, .aload_n 0, 1), (78, .invokevirtual 508, 3), (81, .iconst 0, 1), (82, .istore_n 1, 1), (83, .iconst 0, 1),
    (84, .istore_n 2, 1), (85, .iload_n 2, 1), (86, .aload_n 0, 1), (87, .getfield 446, 3), (90, .if_icmp .ge 166, 3), (93, .aload_n 0, 1), (94, .getfield 166, 3), (97, .iload_n 2, 1), (98, .iaload, 1), (99, .istore_n 3, 1), (100, .aload_n 0, 1), (101, .getfield 187, 3),
    (104, .iload_n 3, 1), (105, .iconst 0, 1), (106, .bastore, 1), (107, .aload_n 0, 1), (108, .getfield 145, 3), (111, .iload_n 3, 1), (112, .iaload, 1), (113, .iconst 2, 1), (114, .if_icmp .ge 6, 3), (117, .goto 133, 3), (120, .iconst 1, 1), (121, .istore 4, 2),
    (123, .iload_n 1, 1), (124, .aload_n 0, 1), (125, .getfield 139, 3), (128, .iload_n 3, 1), (129, .iaload, 1), (130, .if_icmp .ge 29, 3), (133, .aload_n 0, 1), (134, .getfield 184, 3), (137, .iload_n 1, 1), (138, .baload, 1), (139, .ifCond .ne 14, 3), (142, .iload 4, 2),
    (144, .ifCond .eq 9, 3), (147, .aload_n 0, 1), (148, .invokevirtual 514, 3), (151, .istore 4, 2), (153, .iinc 1 1, 3), (156, .goto (-33), 3), (159, .aload_n 0, 1), (160, .getfield 17, 3), (163, .aload_n 0, 1), (164, .getfield 148, 3), (167, .iload_n 3, 1), (168, .iaload, 1),
    (169, .iaload, 1), (170, .istore 5, 2), (172, .aload_n 0, 1), (173, .getfield 187, 3), (176, .iload_n 3, 1), (177, .aload_n 0, 1), (178, .iload 5, 2), (180, .invokevirtual 511, 3), (183, .ifCond .ne 7, 3), (186, .iconst 1, 1), (187, .goto 4, 3), (190, .iconst 0, 1),
    (191, .bastore, 1), (192, .iconst 0, 1), (193, .istore 6, 2), (195, .iload 6, 2), (197, .sipush 625, 3), (200, .if_icmp .ge 50, 3), (203, .aload_n 0, 1), (204, .getfield 187, 3), (207, .iload_n 3, 1), (208, .baload, 1), (209, .ifCond .ne 41, 3), (212, .aload_n 0, 1),
    (213, .getfield 178, 3), (216, .iload 6, 2), (218, .aload_n 0, 1), (219, .getfield 178, 3), (222, .iload 6, 2), (224, .baload, 1), (225, .ifCond .eq 17, 3), (228, .iload 6, 2), (230, .iload 5, 2), (232, .invokestatic 499, 3), (235, .ifCond .ne 7, 3), (238, .iconst 1, 1),
    (239, .goto 4, 3), (242, .iconst 0, 1), (243, .bastore, 1), (244, .iinc 6 1, 3), (247, .goto (-52), 3), (250, .iinc 2 1, 3), (253, .goto (-168), 3), (256, .return_, 1)]
def zx_m99 : zx_MD := (zx_t99, ((zx_fd zx_Fc12, zx_fd zx_Sc12, zx_fd zx_Cc12, zx_fd zx_Ic12, zx_has zx_Lc12, zx_fd [], 7, false, (0, 0), false), (zx_fd zx_Kc12, 4)))
/-- OperaHouseModel.told -/
def zx_t100 : List (Nat × Instr × Nat) := [(0, .aload_n 0, 1), (1, .iload_n 1, 1), (2, .ifCond .lt 20, 3), (5, .iload_n 1, 1), (6, .aload_n 0, 1), (7, .getfield 570, 3), (10, .if_icmp .ge 12, 3), (13, .iload_n 2, 1), (14, .ifCond .lt 8, 3), (17, .iload_n 2, 1), (18, .iconst 2, 1), (19, .if_icmp .le 7, 3),
    (22, .iconst 1, 1), (23, .goto 4, 3), (26, .iconst 0, 1), (27, .invokevirtual 573, 3), (30, .ifCond .eq 5, 3), (33, .iconst 0, 1), (34, .ireturn, 1), (35, .iload_n 2, 1), (36, .ifCond .ne 12, 3), (39, .aload_n 0, 1), (40, .getfield 202, 3), (43, .iload_n 1, 1),
    (44, .iaload, 1), (45, .goto 23, 3), (48, .iload_n 2, 1), (49, .iconst 1, 1), (50, .if_icmp .ne 12, 3), (53, .aload_n 0, 1), (54, .getfield 205, 3), (57, .iload_n 1, 1), (58, .iaload, 1), (59, .goto 9, 3), (62, .aload_n 0, 1), (63, .getfield 208, 3),
    (66, .iload_n 1, 1), (67, .iaload, 1), (68, .ireturn, 1)]
def zx_m100 : zx_MD := (zx_t100, ((zx_fd zx_Fc12, zx_fd zx_Sc12, zx_fd zx_Cc12, zx_fd zx_Ic12, zx_has zx_Lc12, zx_fd [], 3, false, (0, 0), false), (zx_fd zx_Kc12, 0)))
/-- OperaHouseModel.throwsIf -/
def zx_t101 : List (Nat × Instr × Nat) := [(0, .aload_n 0, 1), (1, .iload_n 1, 1), (2, .ifCond .eq 7, 3), (5, .iconst 1, 1), (6, .goto 4, 3), (9, .iconst 0, 1), (10, .putfield 226, 3), (13, .iload_n 1, 1), (14, .ireturn, 1)]
def zx_m101 : zx_MD := (zx_t101, ((zx_fd zx_Fc12, zx_fd zx_Sc12, zx_fd zx_Cc12, zx_fd zx_Ic12, zx_has zx_Lc12, zx_fd [], 2, false, (0, 0), false), (zx_fd zx_Kc12, 1)))
/-- OperaHouseModel.may -/
def zx_t102 : List (Nat × Instr × Nat) := [(0, .aload_n 0, 1), (1, .iconst 0, 1), (2, .putfield 226, 3), (5, .aload_n 0, 1), (6, .iload_n 1, 1), (7, .invokevirtual 310, 3), (10, .ifCond .eq 26, 3), (13, .aload_n 0, 1), (14, .iload_n 2, 1), (15, .iload_n 3, 1), (16, .invokevirtual 433, 3), (19, .ifCond .eq 17, 3),
    (22, .aload_n 0, 1), (23, .iload_n 1, 1), (24, .iload_n 2, 1), (25, .iload_n 3, 1), (26, .invokevirtual 590, 3), (29, .ifCond .eq 7, 3), (32, .iconst 1, 1), (33, .goto 4, 3), (36, .iconst 0, 1), (37, .ireturn, 1)]
def zx_m102 : zx_MD := (zx_t102, ((zx_fd zx_Fc12, zx_fd zx_Sc12, zx_fd zx_Cc12, zx_fd zx_Ic12, zx_has zx_Lc12, zx_fd [], 4, false, (0, 0), false), (zx_fd zx_Kc12, 1)))
/-- OperaHouseModel.harm -/
def zx_t103 : List (Nat × Instr × Nat) := [(0, .aload_n 0, 1), (1, .iconst 0, 1), (2, .putfield 226, 3), (5, .aload_n 0, 1), (6, .iload_n 1, 1), (7, .invokevirtual 310, 3), (10, .ifCond .eq 22, 3), (13, .aload_n 0, 1), (14, .iload_n 2, 1), (15, .iload_n 3, 1), (16, .invokevirtual 433, 3), (19, .ifCond .eq 13, 3),
    (22, .aload_n 0, 1), (23, .iload_n 1, 1), (24, .iload_n 2, 1), (25, .iload_n 3, 1), (26, .invokevirtual 593, 3), (29, .goto 4, 3), (32, .iconst (-1), 1), (33, .ireturn, 1)]
def zx_m103 : zx_MD := (zx_t103, ((zx_fd zx_Fc12, zx_fd zx_Sc12, zx_fd zx_Cc12, zx_fd zx_Ic12, zx_has zx_Lc12, zx_fd [], 4, false, (0, 0), false), (zx_fd zx_Kc12, 0)))
/-- OperaHouseModel.instead -/
def zx_t104 : List (Nat × Instr × Nat) := [(0, .aload_n 0, 1), (1, .iconst 0, 1), (2, .putfield 226, 3), (5, .aload_n 0, 1), (6, .iload_n 1, 1), (7, .iload_n 2, 1), (8, .invokevirtual 433, 3), (11, .ifCond .ne 5, 3), (14, .iconst (-1), 1), (15, .ireturn, 1), (16, .iconst (-1), 1), (17, .istore_n 3, 1),
    (18, .iconst 0, 1), (19, .istore 4, 2), (21, .iconst 0, 1), (22, .istore 5, 2), (24, .iload 5, 2), (26, .aload_n 0, 1), (27, .getfield 258, 3), (30, .if_icmp .ge 54, 3), (33, .aload_n 0, 1), (34, .iload 5, 2), (36, .iload_n 1, 1), (37, .iload_n 2, 1),
    (38, .invokevirtual 590, 3), (41, .ifCond .ne 6, 3), (44, .goto 34, 3), (47, .aload_n 0, 1), (48, .iload 5, 2), (50, .iload_n 1, 1), (51, .iload_n 2, 1), (52, .invokevirtual 593, 3), (55, .istore 6, 2), (57, .iload_n 3, 1), (58, .ifCond .lt 13, 3), (61, .iload 6, 2),
    (63, .iload 4, 2), (65, .if_icmp .lt 6, 3), (68, .goto 10, 3), (71, .iload 5, 2), (73, .istore_n 3, 1), (74, .iload 6, 2), (76, .istore 4, 2), (78, .iinc 5 1, 3), (81, .goto (-57), 3), (84, .iload_n 3, 1), (85, .ireturn, 1)]
def zx_m104 : zx_MD := (zx_t104, ((zx_fd zx_Fc12, zx_fd zx_Sc12, zx_fd zx_Cc12, zx_fd zx_Ic12, zx_has zx_Lc12, zx_fd [], 7, false, (0, 0), false), (zx_fd zx_Kc12, 0)))
/-- OperaHouseModel.lay -/
def zx_t105 : List (Nat × Instr × Nat) := [(0, .aload_n 0, 1), (1, .iconst 0, 1), (2, .putfield 226, 3), (5, .aload_n 0, 1), (6, .invokevirtual 252, 3), (9, .aload_n 0, 1), (10, .iconst 0, 1), (11, .putfield 596, 3), (14, .aload_n 0, 1), (15, .getfield 236, 3), (18, .iconst 1, 1), (19, .bipush 6, 2),
    (21, .invokestatic 242, 3), (24, .ifCond .eq 54, 3), (27, .iload_n 1, 1), (28, .aload_n 0, 1), (29, .getfield 246, 3), (32, .bipush 29, 2), (34, .invokestatic 242, 3), (37, .ifCond .eq 41, 3), (40, .iload_n 2, 1), (41, .iload_n 1, 1), (42, .bipush 29, 2), (44, .invokestatic 242, 3),
    (47, .ifCond .eq 31, 3), (50, .iload_n 3, 1), (51, .iconst 0, 1), (52, .bipush 23, 2), (54, .invokestatic 242, 3), (57, .ifCond .eq 21, 3), (60, .aload_n 0, 1), (61, .getfield 423, 3), (64, .aload_n 0, 1), (65, .getfield 236, 3), (68, .iadd, 1), (69, .bipush 60, 2),
    (71, .if_icmp .gt 7, 3), (74, .iconst 1, 1), (75, .goto 4, 3), (78, .iconst 0, 1), (79, .istore 4, 2), (81, .iconst 0, 1), (82, .istore 5, 2), (84, .iload 5, 2), (86, .aload_n 0, 1), (87, .getfield 236, 3), (90, .if_icmp .ge 60, 3), (93, .iload 4, 2),
    (95, .ifCond .eq 55, 3), (98, .aload_n 0, 1), (99, .getfield 7, 3), (102, .iload 5, 2), (104, .baload, 1), (105, .iconst 0, 1), (106, .aload_n 0, 1), (107, .getfield 255, 3), (110, .iconst 1, 1), (111, .isub, 1), (112, .invokestatic 242, 3), (115, .ifCond .eq 26, 3),
    (118, .iload_n 3, 1), (119, .aload_n 0, 1), (120, .getfield 13, 3), (123, .aload_n 0, 1), (124, .getfield 7, 3), (127, .iload 5, 2), (129, .baload, 1), (130, .iaload, 1), (131, .iadd, 1), (132, .bipush 24, 2), (134, .if_icmp .gt 7, 3), (137, .iconst 1, 1),
    (138, .goto 4, 3), (141, .iconst 0, 1), (142, .istore 4, 2), (144, .iinc 5 1, 3), (147, .goto (-63), 3), (150, .iload 4, 2), (152, .ifCond .ne 5, 3), (155, .iconst (-1), 1), (156, .ireturn, 1), (157, .aload_n 0, 1), (158, .aload_n 0, 1), (159, .getfield 236, 3),
    (162, .putfield 599, 3), (165, .iconst 0, 1), (166, .istore 5, 2), (168, .iload 5, 2), (170, .aload_n 0, 1), (171, .getfield 236, 3), (174, .if_icmp .ge 23, 3), (177, .aload_n 0, 1), (178, .getfield 211, 3), (181, .iload 5, 2), (183, .aload_n 0, 1), (184, .getfield 7, 3),
    (187, .iload 5, 2), (189, .baload, 1), (190, .iastore, 1), (191, .iinc 5 1, 3), (194, .goto (-26), 3), (197, .aload_n 0, 1), (198, .aload_n 0, 1), (199, .getfield 246, 3), (202, .invokevirtual 460, 3), (205, .aload_n 0, 1), (206, .invokevirtual 567, 3), (209, .aload_n 0, 1),
    (210, .invokevirtual 580, 3), (213, .iconst 0, 1), (214, .istore 5, 2), (216, .iload 5, 2), (218, .aload_n 0, 1), (219, .getfield 551, 3), (222, .if_icmp .ge 39, 3), (225, .aload_n 0, 1), (226, .getfield 199, 3), (229, .aload_n 0, 1), (230, .getfield 190, 3), (233, .iload 5, 2),
    (235, .iaload, 1), (236, .aload_n 0, 1), (237, .getfield 193, 3), (240, .iload 5, 2), (242, .iaload, 1), (243, .aload_n 0, 1), (244, .getfield 196, 3), (247, .iload 5, 2), (249, .iaload, 1), (250, .invokestatic 577, 3), (253, .iconst 1, 1), (254, .bastore, 1),
    (255, .iinc 5 1, 3), (258, .goto (-42), 3), (261, .iconst 0, 1), (262, .istore 5, 2), (264, .iconst 0, 1), (265, .istore 6, 2), (267, .aload_n 0, 1), (268, .getfield 214, 3), (271, .iconst 0, 1), (272, .iload_n 1, 1), (273, .iconst 1, 1), (274, .isub, 1),
    (275, .iastore, 1), (276, .iload 6, 2), (278, .ifCond .lt 176, 3), (281, .aload_n 0, 1), (282, .getfield 214, 3), (285, .iload 6, 2), (287, .dup2, 1), (288, .iaload, 1), (289, .iconst 1, 1), (290, .iadd, 1), (291, .iastore, 1), (292, .aload_n 0, 1),
    (293, .getfield 214, 3), (296, .iload 6, 2), (298, .iaload, 1), (299, .iload_n 2, 1), (300, .if_icmp .le 9, 3), (303, .iinc 6 (-1), 3), (306, .goto (-30), 3), (309, .iinc 5 1, 3), (312, .iload 5, 2), (314, .sipush 400, 3), (317, .if_icmp .le 6, 3), (320, .bipush (-2), 2),
    (322, .ireturn, 1), (323, .aload_n 0, 1), (324, .iload 6, 2), (326, .aload_n 0, 1), (327, .getfield 214, 3), (330, .iload 6, 2), (332, .iaload, 1), (333, .iload_n 3, 1), (334, .invokevirtual 602, 3), (337, .aload_n 0, 1), (338, .iload 6, 2), (340, .iconst 1, 1),
    (341, .iadd, 1), (342, .invokevirtual 605, 3), (345, .ifCond .ne 6, 3), (348, .goto (-72), 3), (351, .iload 6, 2), (353, .iconst 1, 1), (354, .iadd, 1), (355, .aload_n 0, 1), (356, .getfield 599, 3), (359, .if_icmp .ne 73, 3), (362, .aload_n 0, 1), (363, .aload_n 0, 1),
    (364, .getfield 599, 3), (367, .putfield 596, 3), (370, .aload_n 0, 1), (371, .iload_n 3, 1), (372, .putfield 608, 3), (375, .aload_n 0, 1), (376, .aload_n 0, 1), (377, .getfield 249, 3), (380, .putfield 223, 3), (383, .iconst 0, 1), (384, .istore 7, 2), (386, .iload 7, 2),
    (388, .aload_n 0, 1), (389, .getfield 599, 3), (392, .if_icmp .ge 37, 3), (395, .aload_n 0, 1), (396, .getfield 217, 3), (399, .iload 7, 2), (401, .aload_n 0, 1), (402, .getfield 214, 3), (405, .iload 7, 2), (407, .iaload, 1), (408, .iastore, 1), (409, .aload_n 0, 1),
    (410, .getfield 220, 3), (413, .iload 7, 2), (415, .aload_n 0, 1), (416, .getfield 211, 3), (419, .iload 7, 2), (421, .iaload, 1), (422, .iastore, 1), (423, .iinc 7 1, 3), (426, .goto (-40), 3), (429, .iload 5, 2), (431, .ireturn, 1), (432, .aload_n 0, 1),
    (433, .getfield 214, 3), (436, .iload 6, 2), (438, .iconst 1, 1), (439, .iadd, 1), (440, .aload_n 0, 1), (441, .getfield 214, 3), (444, .iload 6, 2), (446, .iaload, 1), (447, .iastore, 1), (448, .iinc 6 1, 3), (451, .goto (-175), 3), (454, .iconst 0, 1),
    (455, .ireturn, 1)]
def zx_m105 : zx_MD := (zx_t105, ((zx_fd zx_Fc12, zx_fd zx_Sc12, zx_fd zx_Cc12, zx_fd zx_Ic12, zx_has zx_Lc12, zx_fd [], 8, false, (0, 0), false), (zx_fd zx_Kc12, 0)))
/-- OperaHouseModel.laid -/
def zx_t106 : List (Nat × Instr × Nat) := [(0, .aload_n 0, 1), (1, .iconst 0, 1), (2, .putfield 226, 3), (5, .iload_n 1, 1), (6, .ifCond .lt 11, 3), (9, .iload_n 1, 1), (10, .aload_n 0, 1), (11, .getfield 596, 3), (14, .if_icmp .lt 7, 3), (17, .iconst (-1), 1), (18, .goto 9, 3), (21, .aload_n 0, 1),
    (22, .getfield 217, 3), (25, .iload_n 1, 1), (26, .iaload, 1), (27, .ireturn, 1)]
def zx_m106 : zx_MD := (zx_t106, ((zx_fd zx_Fc12, zx_fd zx_Sc12, zx_fd zx_Cc12, zx_fd zx_Ic12, zx_has zx_Lc12, zx_fd [], 2, false, (0, 0), false), (zx_fd zx_Kc12, 0)))
/-- OperaHouseModel.keep -/
def zx_t107 : List (Nat × Instr × Nat) := [(0, .aload_n 0, 1), (1, .iconst 0, 1), (2, .putfield 226, 3), (5, .aload_n 0, 1), (6, .getfield 596, 3), (9, .ifCond .eq 14, 3), (12, .aload_n 0, 1), (13, .getfield 223, 3), (16, .aload_n 0, 1), (17, .getfield 249, 3), (20, .if_icmp .eq 5, 3), (23, .iconst (-1), 1),
    (24, .ireturn, 1), (25, .aload_n 0, 1), (26, .aload_n 0, 1), (27, .getfield 246, 3), (30, .invokevirtual 460, 3), (33, .iconst 0, 1), (34, .istore_n 1, 1), (35, .iconst 0, 1), (36, .istore_n 2, 1), (37, .iload_n 2, 1), (38, .aload_n 0, 1), (39, .getfield 596, 3),
    (42, .if_icmp .ge 77, 3), (45, .aload_n 0, 1), (46, .getfield 211, 3), (49, .iload_n 2, 1), (50, .aload_n 0, 1), (51, .getfield 220, 3), (54, .iload_n 2, 1), (55, .iaload, 1), (56, .iastore, 1), (57, .aload_n 0, 1), (58, .iload_n 2, 1), (59, .aload_n 0, 1),
    (60, .getfield 217, 3), (63, .iload_n 2, 1), (64, .iaload, 1), (65, .aload_n 0, 1), (66, .getfield 608, 3), (69, .invokevirtual 602, 3), (72, .iconst 0, 1), (73, .istore_n 3, 1), (74, .iload_n 3, 1), (75, .bipush 8, 2), (77, .if_icmp .ge 36, 3), (80, .iload_n 1, 1),
    (81, .aload_n 0, 1), (82, .getfield 157, 3), (85, .bipush 8, 2), (87, .aload_n 0, 1), (88, .getfield 423, 3), (91, .iload_n 2, 1), (92, .iadd, 1), (93, .imul, 1), (94, .iload_n 3, 1), (95, .iadd, 1), (96, .iaload, 1), (97, .ifCond .lt 7, 3),
    (100, .iconst 1, 1), (101, .goto 4, 3), (104, .iconst 0, 1), (105, .iadd, 1), (106, .istore_n 1, 1), (107, .iinc 3 1, 3), (110, .goto (-36), 3), (113, .iinc 2 1, 3), (116, .goto (-79), 3), (119, .aload_n 0, 1), (120, .getfield 430, 3), (123, .iload_n 1, 1),
    (124, .iadd, 1), (125, .sipush 400, 3), (128, .if_icmp .le 5, 3), (131, .iconst (-1), 1), (132, .ireturn, 1), (133, .iconst 0, 1), (134, .istore_n 2, 1), (135, .iload_n 2, 1), (136, .aload_n 0, 1), (137, .getfield 596, 3), (140, .if_icmp .ge 67, 3), (143, .aload_n 0, 1),
    (144, .getfield 423, 3), (147, .iload_n 2, 1), (148, .iadd, 1), (149, .istore_n 3, 1), (150, .iconst 0, 1), (151, .istore 4, 2), (153, .iload 4, 2), (155, .bipush 8, 2), (157, .if_icmp .ge 44, 3), (160, .aload_n 0, 1), (161, .getfield 157, 3), (164, .bipush 8, 2),
    (166, .iload_n 3, 1), (167, .imul, 1), (168, .iload 4, 2), (170, .iadd, 1), (171, .iaload, 1), (172, .ifCond .lt 23, 3), (175, .aload_n 0, 1), (176, .iload_n 3, 1), (177, .iload 4, 2), (179, .aload_n 0, 1), (180, .getfield 157, 3), (183, .bipush 8, 2),
    (185, .iload_n 3, 1), (186, .imul, 1), (187, .iload 4, 2), (189, .iadd, 1), (190, .iaload, 1), (191, .iconst 0, 1), (192, .invokevirtual 436, 3), (195, .iinc 4 1, 3), (198, .goto (-45), 3), (201, .iinc 2 1, 3), (204, .goto (-69), 3), (207, .aload_n 0, 1),
    (208, .dup, 1), (209, .getfield 423, 3), (212, .aload_n 0, 1), (213, .getfield 596, 3), (216, .iadd, 1), (217, .putfield 423, 3), (220, .aload_n 0, 1), (221, .dup, 1), (222, .getfield 249, 3), (225, .iconst 1, 1), (226, .iadd, 1), (227, .putfield 249, 3),
    (230, .aload_n 0, 1), (231, .getfield 423, 3), (234, .ireturn, 1)]
def zx_m107 : zx_MD := (zx_t107, ((zx_fd zx_Fc12, zx_fd zx_Sc12, zx_fd zx_Cc12, zx_fd zx_Ic12, zx_has zx_Lc12, zx_fd [], 5, false, (0, 0), false), (zx_fd zx_Kc12, 0)))
/-- OperaHouseModel.count -/
def zx_t108 : List (Nat × Instr × Nat) := [(0, .aload_n 0, 1), (1, .iconst 0, 1), (2, .putfield 226, 3), (5, .iload_n 1, 1), (6, .tableswitch 77 0 6 #[42, 47, 52, 57, 62, 67, 72], 42), (48, .aload_n 0, 1), (49, .getfield 246, 3), (52, .ireturn, 1), (53, .aload_n 0, 1), (54, .getfield 255, 3), (57, .ireturn, 1), (58, .aload_n 0, 1),
    (59, .getfield 258, 3), (62, .ireturn, 1), (63, .aload_n 0, 1), (64, .getfield 423, 3), (67, .ireturn, 1), (68, .aload_n 0, 1), (69, .getfield 430, 3), (72, .ireturn, 1), (73, .aload_n 0, 1), (74, .getfield 440, 3), (77, .ireturn, 1), (78, .aload_n 0, 1),
    (79, .getfield 229, 3), (82, .ireturn, 1), (83, .iconst (-1), 1), (84, .ireturn, 1)]
def zx_m108 : zx_MD := (zx_t108, ((zx_fd zx_Fc12, zx_fd zx_Sc12, zx_fd zx_Cc12, zx_fd zx_Ic12, zx_has zx_Lc12, zx_fd [], 2, false, (0, 0), false), (zx_fd zx_Kc12, 0)))
/-- OperaHouseLaw.law -/
def zx_tlaw : List (Nat × Instr × Nat) := [(0, .new 8, 3), (3, .dup, 1), (4, .invokespecial 15, 3), (7, .astore_n 1, 1), (8, .new 16, 3), (11, .dup, 1), (12, .invokespecial 18, 3), (15, .astore_n 2, 1), (16, .iconst 1, 1), (17, .newarray .long, 2), (19, .astore_n 3, 1), (20, .iconst 0, 1),
    (21, .istore 4, 2), (23, .iload 4, 2), (25, .aload_n 0, 1), (26, .arraylength, 1), (27, .bipush 6, 2), (29, .isub, 1), (30, .if_icmp .gt 1439, 3), (33, .aload_n 0, 1), (34, .iload 4, 2), (36, .iaload, 1), (37, .bipush 31, 2), (39, .iand, 1),
    (40, .tableswitch 1423 0 27 #[128, 201, 226, 251, 328, 377, 426, 463, 488, 501, 562, 635, 712, 761, 838, 863, 931, 992, 1041, 1090, 1139, 1176, 1225, 1274, 1311, 1360, 1385, 1398], 128), (168, .aload_n 1, 1), (169, .aload_n 0, 1), (170, .iload 4, 2), (172, .iconst 1, 1), (173, .iadd, 1), (174, .iaload, 1), (175, .aload_n 0, 1), (176, .iload 4, 2), (178, .iconst 2, 1), (179, .iadd, 1), (180, .iaload, 1),
    (181, .aload_n 0, 1), (182, .iload 4, 2), (184, .iconst 3, 1), (185, .iadd, 1), (186, .iaload, 1), (187, .aload_n 0, 1), (188, .iload 4, 2), (190, .iconst 4, 1), (191, .iadd, 1), (192, .iaload, 1), (193, .aload_n 0, 1), (194, .iload 4, 2),
    (196, .iconst 5, 1), (197, .iadd, 1), (198, .iaload, 1), (199, .invokevirtual 19, 3), (202, .aload_n 2, 1), (203, .aload_n 0, 1), (204, .iload 4, 2), (206, .iconst 1, 1), (207, .iadd, 1), (208, .iaload, 1), (209, .aload_n 0, 1), (210, .iload 4, 2),
    (212, .iconst 2, 1), (213, .iadd, 1), (214, .iaload, 1), (215, .aload_n 0, 1), (216, .iload 4, 2), (218, .iconst 3, 1), (219, .iadd, 1), (220, .iaload, 1), (221, .aload_n 0, 1), (222, .iload 4, 2), (224, .iconst 4, 1), (225, .iadd, 1),
    (226, .iaload, 1), (227, .aload_n 0, 1), (228, .iload 4, 2), (230, .iconst 5, 1), (231, .iadd, 1), (232, .iaload, 1), (233, .invokevirtual 23, 3), (236, .if_icmp .eq 1227, 3), (239, .iconst 0, 1), (240, .ireturn, 1), (241, .aload_n 1, 1), (242, .aload_n 0, 1),
    (243, .iload 4, 2), (245, .iconst 1, 1), (246, .iadd, 1), (247, .iaload, 1), (248, .invokevirtual 24, 3), (251, .aload_n 2, 1), (252, .aload_n 0, 1), (253, .iload 4, 2), (255, .iconst 1, 1), (256, .iadd, 1), (257, .iaload, 1), (258, .invokevirtual 28, 3),
    (261, .if_icmp .eq 1202, 3), (264, .iconst 0, 1), (265, .ireturn, 1), (266, .aload_n 1, 1), (267, .aload_n 0, 1), (268, .iload 4, 2), (270, .iconst 1, 1), (271, .iadd, 1), (272, .iaload, 1), (273, .invokevirtual 29, 3), (276, .aload_n 2, 1), (277, .aload_n 0, 1),
    (278, .iload 4, 2), (280, .iconst 1, 1), (281, .iadd, 1), (282, .iaload, 1), (283, .invokevirtual 33, 3), (286, .if_icmp .eq 1177, 3), (289, .iconst 0, 1), (290, .ireturn, 1), (291, .aload_n 1, 1), (292, .aload_n 0, 1), (293, .iload 4, 2), (295, .iconst 1, 1),
    (296, .iadd, 1), (297, .iaload, 1), (298, .aload_n 0, 1), (299, .iload 4, 2), (301, .iconst 2, 1), (302, .iadd, 1), (303, .iaload, 1), (304, .aload_n 0, 1), (305, .iload 4, 2), (307, .iconst 3, 1), (308, .iadd, 1), (309, .iaload, 1),
    (310, .ifCond .eq 7, 3), (313, .iconst 1, 1), (314, .goto 4, 3), (317, .iconst 0, 1), (318, .aload_n 0, 1), (319, .iload 4, 2), (321, .iconst 4, 1), (322, .iadd, 1), (323, .iaload, 1), (324, .invokevirtual 34, 3), (327, .aload_n 2, 1), (328, .aload_n 0, 1),
    (329, .iload 4, 2), (331, .iconst 1, 1), (332, .iadd, 1), (333, .iaload, 1), (334, .aload_n 0, 1), (335, .iload 4, 2), (337, .iconst 2, 1), (338, .iadd, 1), (339, .iaload, 1), (340, .aload_n 0, 1), (341, .iload 4, 2), (343, .iconst 3, 1),
    (344, .iadd, 1), (345, .iaload, 1), (346, .ifCond .eq 7, 3), (349, .iconst 1, 1), (350, .goto 4, 3), (353, .iconst 0, 1), (354, .aload_n 0, 1), (355, .iload 4, 2), (357, .iconst 4, 1), (358, .iadd, 1), (359, .iaload, 1), (360, .invokevirtual 38, 3),
    (363, .if_icmp .eq 1100, 3), (366, .iconst 0, 1), (367, .ireturn, 1), (368, .aload_n 1, 1), (369, .aload_n 0, 1), (370, .iload 4, 2), (372, .iconst 1, 1), (373, .iadd, 1), (374, .iaload, 1), (375, .aload_n 0, 1), (376, .iload 4, 2), (378, .iconst 2, 1),
    (379, .iadd, 1), (380, .iaload, 1), (381, .aload_n 0, 1), (382, .iload 4, 2), (384, .iconst 3, 1), (385, .iadd, 1), (386, .iaload, 1), (387, .invokevirtual 39, 3), (390, .aload_n 2, 1), (391, .aload_n 0, 1), (392, .iload 4, 2), (394, .iconst 1, 1),
    (395, .iadd, 1), (396, .iaload, 1), (397, .aload_n 0, 1), (398, .iload 4, 2), (400, .iconst 2, 1), (401, .iadd, 1), (402, .iaload, 1), (403, .aload_n 0, 1), (404, .iload 4, 2), (406, .iconst 3, 1), (407, .iadd, 1), (408, .iaload, 1),
    (409, .invokevirtual 43, 3), (412, .if_icmp .eq 1051, 3), (415, .iconst 0, 1), (416, .ireturn, 1), (417, .aload_n 1, 1), (418, .aload_n 0, 1), (419, .iload 4, 2), (421, .iconst 1, 1), (422, .iadd, 1), (423, .iaload, 1), (424, .aload_n 0, 1), (425, .iload 4, 2),
    (427, .iconst 2, 1), (428, .iadd, 1), (429, .iaload, 1), (430, .aload_n 0, 1), (431, .iload 4, 2), (433, .iconst 3, 1), (434, .iadd, 1), (435, .iaload, 1), (436, .invokevirtual 44, 3), (439, .aload_n 2, 1), (440, .aload_n 0, 1), (441, .iload 4, 2),
    (443, .iconst 1, 1), (444, .iadd, 1), (445, .iaload, 1), (446, .aload_n 0, 1), (447, .iload 4, 2), (449, .iconst 2, 1), (450, .iadd, 1), (451, .iaload, 1), (452, .aload_n 0, 1), (453, .iload 4, 2), (455, .iconst 3, 1), (456, .iadd, 1),
    (457, .iaload, 1), (458, .invokevirtual 48, 3), (461, .if_icmp .eq 1002, 3), (464, .iconst 0, 1), (465, .ireturn, 1), (466, .aload_n 1, 1), (467, .aload_n 0, 1), (468, .iload 4, 2), (470, .iconst 1, 1), (471, .iadd, 1), (472, .iaload, 1), (473, .aload_n 0, 1),
    (474, .iload 4, 2), (476, .iconst 2, 1), (477, .iadd, 1), (478, .iaload, 1), (479, .invokevirtual 49, 3), (482, .aload_n 2, 1), (483, .aload_n 0, 1), (484, .iload 4, 2), (486, .iconst 1, 1), (487, .iadd, 1), (488, .iaload, 1), (489, .aload_n 0, 1),
    (490, .iload 4, 2), (492, .iconst 2, 1), (493, .iadd, 1), (494, .iaload, 1), (495, .invokevirtual 53, 3), (498, .if_icmp .eq 965, 3), (501, .iconst 0, 1), (502, .ireturn, 1), (503, .aload_n 1, 1), (504, .aload_n 0, 1), (505, .iload 4, 2), (507, .iconst 1, 1),
    (508, .iadd, 1), (509, .iaload, 1), (510, .invokevirtual 54, 3), (513, .aload_n 2, 1), (514, .aload_n 0, 1), (515, .iload 4, 2), (517, .iconst 1, 1), (518, .iadd, 1), (519, .iaload, 1), (520, .invokevirtual 57, 3), (523, .if_icmp .eq 940, 3), (526, .iconst 0, 1),
    (527, .ireturn, 1), (528, .aload_n 1, 1), (529, .invokevirtual 58, 3), (532, .aload_n 2, 1), (533, .invokevirtual 62, 3), (536, .if_icmp .eq 927, 3), (539, .iconst 0, 1), (540, .ireturn, 1), (541, .aload_n 1, 1), (542, .aload_n 0, 1), (543, .iload 4, 2), (545, .iconst 1, 1),
    (546, .iadd, 1), (547, .iaload, 1), (548, .aload_n 0, 1), (549, .iload 4, 2), (551, .iconst 2, 1), (552, .iadd, 1), (553, .iaload, 1), (554, .aload_n 0, 1), (555, .iload 4, 2), (557, .iconst 3, 1), (558, .iadd, 1), (559, .iaload, 1),
    (560, .aload_n 0, 1), (561, .iload 4, 2), (563, .iconst 4, 1), (564, .iadd, 1), (565, .iaload, 1), (566, .invokevirtual 63, 3), (569, .aload_n 2, 1), (570, .aload_n 0, 1), (571, .iload 4, 2), (573, .iconst 1, 1), (574, .iadd, 1), (575, .iaload, 1),
    (576, .aload_n 0, 1), (577, .iload 4, 2), (579, .iconst 2, 1), (580, .iadd, 1), (581, .iaload, 1), (582, .aload_n 0, 1), (583, .iload 4, 2), (585, .iconst 3, 1), (586, .iadd, 1), (587, .iaload, 1), (588, .aload_n 0, 1), (589, .iload 4, 2),
    (591, .iconst 4, 1), (592, .iadd, 1), (593, .iaload, 1), (594, .invokevirtual 67, 3), (597, .if_icmp .eq 866, 3), (600, .iconst 0, 1), (601, .ireturn, 1), (602, .aload_n 1, 1), (603, .aload_n 0, 1), (604, .iload 4, 2), (606, .iconst 1, 1), (607, .iadd, 1),
    (608, .iaload, 1), (609, .aload_n 0, 1), (610, .iload 4, 2), (612, .iconst 2, 1), (613, .iadd, 1), (614, .iaload, 1), (615, .aload_n 0, 1), (616, .iload 4, 2), (618, .iconst 3, 1), (619, .iadd, 1), (620, .iaload, 1), (621, .aload_n 0, 1),
    (622, .iload 4, 2), (624, .iconst 4, 1), (625, .iadd, 1), (626, .iaload, 1), (627, .aload_n 0, 1), (628, .iload 4, 2), (630, .iconst 5, 1), (631, .iadd, 1), (632, .iaload, 1), (633, .invokevirtual 68, 3), (636, .aload_n 2, 1), (637, .aload_n 0, 1),
    (638, .iload 4, 2), (640, .iconst 1, 1), (641, .iadd, 1), (642, .iaload, 1), (643, .aload_n 0, 1), (644, .iload 4, 2), (646, .iconst 2, 1), (647, .iadd, 1), (648, .iaload, 1), (649, .aload_n 0, 1), (650, .iload 4, 2), (652, .iconst 3, 1),
    (653, .iadd, 1), (654, .iaload, 1), (655, .aload_n 0, 1), (656, .iload 4, 2), (658, .iconst 4, 1), (659, .iadd, 1), (660, .iaload, 1), (661, .aload_n 0, 1), (662, .iload 4, 2), (664, .iconst 5, 1), (665, .iadd, 1), (666, .iaload, 1),
    (667, .invokevirtual 71, 3), (670, .if_icmp .eq 793, 3), (673, .iconst 0, 1), (674, .ireturn, 1), (675, .aload_n 1, 1), (676, .aload_n 0, 1), (677, .iload 4, 2), (679, .iconst 1, 1), (680, .iadd, 1), (681, .iaload, 1), (682, .aload_n 0, 1), (683, .iload 4, 2),
    (685, .iconst 2, 1), (686, .iadd, 1), (687, .iaload, 1), (688, .aload_n 0, 1), (689, .iload 4, 2), (691, .iconst 3, 1), (692, .iadd, 1), (693, .iaload, 1), (694, .aload_n 0, 1), (695, .iload 4, 2), (697, .iconst 4, 1), (698, .iadd, 1),
    (699, .iaload, 1), (700, .ifCond .eq 7, 3), (703, .iconst 1, 1), (704, .goto 4, 3), (707, .iconst 0, 1), (708, .invokevirtual 72, 3), (711, .aload_n 2, 1), (712, .aload_n 0, 1), (713, .iload 4, 2), (715, .iconst 1, 1), (716, .iadd, 1), (717, .iaload, 1),
    (718, .aload_n 0, 1), (719, .iload 4, 2), (721, .iconst 2, 1), (722, .iadd, 1), (723, .iaload, 1), (724, .aload_n 0, 1), (725, .iload 4, 2), (727, .iconst 3, 1), (728, .iadd, 1), (729, .iaload, 1), (730, .aload_n 0, 1), (731, .iload 4, 2),
    (733, .iconst 4, 1), (734, .iadd, 1), (735, .iaload, 1), (736, .ifCond .eq 7, 3), (739, .iconst 1, 1), (740, .goto 4, 3), (743, .iconst 0, 1), (744, .invokevirtual 76, 3), (747, .if_icmp .eq 716, 3), (750, .iconst 0, 1), (751, .ireturn, 1), (752, .aload_n 1, 1),
    (753, .aload_n 0, 1), (754, .iload 4, 2), (756, .iconst 1, 1), (757, .iadd, 1), (758, .iaload, 1), (759, .aload_n 0, 1), (760, .iload 4, 2), (762, .iconst 2, 1), (763, .iadd, 1), (764, .iaload, 1), (765, .aload_n 0, 1), (766, .iload 4, 2),
    (768, .iconst 3, 1), (769, .iadd, 1), (770, .iaload, 1), (771, .invokevirtual 77, 3), (774, .aload_n 2, 1), (775, .aload_n 0, 1), (776, .iload 4, 2), (778, .iconst 1, 1), (779, .iadd, 1), (780, .iaload, 1), (781, .aload_n 0, 1), (782, .iload 4, 2),
    (784, .iconst 2, 1), (785, .iadd, 1), (786, .iaload, 1), (787, .aload_n 0, 1), (788, .iload 4, 2), (790, .iconst 3, 1), (791, .iadd, 1), (792, .iaload, 1), (793, .invokevirtual 80, 3), (796, .if_icmp .eq 667, 3), (799, .iconst 0, 1), (800, .ireturn, 1),
    (801, .aload_n 1, 1), (802, .aload_n 0, 1), (803, .iload 4, 2), (805, .iconst 1, 1), (806, .iadd, 1), (807, .iaload, 1), (808, .aload_n 0, 1), (809, .iload 4, 2), (811, .iconst 2, 1), (812, .iadd, 1), (813, .iaload, 1), (814, .aload_n 0, 1),
    (815, .iload 4, 2), (817, .iconst 3, 1), (818, .iadd, 1), (819, .iaload, 1), (820, .ifCond .eq 7, 3), (823, .iconst 1, 1), (824, .goto 4, 3), (827, .iconst 0, 1), (828, .aload_n 0, 1), (829, .iload 4, 2), (831, .iconst 4, 1), (832, .iadd, 1),
    (833, .iaload, 1), (834, .invokevirtual 81, 3), (837, .aload_n 2, 1), (838, .aload_n 0, 1), (839, .iload 4, 2), (841, .iconst 1, 1), (842, .iadd, 1), (843, .iaload, 1), (844, .aload_n 0, 1), (845, .iload 4, 2), (847, .iconst 2, 1), (848, .iadd, 1),
    (849, .iaload, 1), (850, .aload_n 0, 1), (851, .iload 4, 2), (853, .iconst 3, 1), (854, .iadd, 1), (855, .iaload, 1), (856, .ifCond .eq 7, 3), (859, .iconst 1, 1), (860, .goto 4, 3), (863, .iconst 0, 1), (864, .aload_n 0, 1), (865, .iload 4, 2),
    (867, .iconst 4, 1), (868, .iadd, 1), (869, .iaload, 1), (870, .invokevirtual 84, 3), (873, .if_icmp .eq 590, 3), (876, .iconst 0, 1), (877, .ireturn, 1), (878, .aload_n 1, 1), (879, .aload_n 0, 1), (880, .iload 4, 2), (882, .iconst 1, 1), (883, .iadd, 1),
    (884, .iaload, 1), (885, .invokevirtual 85, 3), (888, .aload_n 2, 1), (889, .aload_n 0, 1), (890, .iload 4, 2), (892, .iconst 1, 1), (893, .iadd, 1), (894, .iaload, 1), (895, .invokevirtual 88, 3), (898, .if_icmp .eq 565, 3), (901, .iconst 0, 1), (902, .ireturn, 1),
    (903, .aload_n 1, 1), (904, .aload_n 0, 1), (905, .iload 4, 2), (907, .iconst 1, 1), (908, .iadd, 1), (909, .iaload, 1), (910, .aload_n 0, 1), (911, .iload 4, 2), (913, .iconst 2, 1), (914, .iadd, 1), (915, .iaload, 1), (916, .aload_n 3, 1),
    (917, .invokestatic 89, 3), (920, .istore 5, 2), (922, .aload_n 2, 1), (923, .aload_n 0, 1), (924, .iload 4, 2), (926, .iconst 1, 1), (927, .iadd, 1), (928, .iaload, 1), (929, .aload_n 0, 1), (930, .iload 4, 2), (932, .iconst 2, 1), (933, .iadd, 1),
    (934, .iaload, 1), (935, .invokevirtual 94, 3), (938, .istore 6, 2), (940, .aload_n 2, 1), (941, .invokevirtual 95, 3), (944, .iload 5, 2), (946, .if_icmp .eq 5, 3), (949, .iconst 0, 1), (950, .ireturn, 1), (951, .iload 5, 2), (953, .ifCond .ne 15, 3), (956, .aload_n 3, 1),
    (957, .iconst 0, 1), (958, .laload, 1), (959, .iload 6, 2), (961, .i2l, 1), (962, .lcmp, 1), (963, .ifCond .eq 5, 3), (966, .iconst 0, 1), (967, .ireturn, 1), (968, .goto 495, 3), (971, .aload_n 1, 1), (972, .aload_n 0, 1), (973, .iload 4, 2),
    (975, .iconst 1, 1), (976, .iadd, 1), (977, .iaload, 1), (978, .aload_n 0, 1), (979, .iload 4, 2), (981, .iconst 2, 1), (982, .iadd, 1), (983, .iaload, 1), (984, .aload_n 0, 1), (985, .iload 4, 2), (987, .iconst 3, 1), (988, .iadd, 1),
    (989, .iaload, 1), (990, .aload_n 0, 1), (991, .iload 4, 2), (993, .iconst 4, 1), (994, .iadd, 1), (995, .iaload, 1), (996, .invokevirtual 98, 3), (999, .aload_n 2, 1), (1000, .aload_n 0, 1), (1001, .iload 4, 2), (1003, .iconst 1, 1), (1004, .iadd, 1),
    (1005, .iaload, 1), (1006, .aload_n 0, 1), (1007, .iload 4, 2), (1009, .iconst 2, 1), (1010, .iadd, 1), (1011, .iaload, 1), (1012, .aload_n 0, 1), (1013, .iload 4, 2), (1015, .iconst 3, 1), (1016, .iadd, 1), (1017, .iaload, 1), (1018, .aload_n 0, 1),
    (1019, .iload 4, 2), (1021, .iconst 4, 1), (1022, .iadd, 1), (1023, .iaload, 1), (1024, .invokevirtual 102, 3), (1027, .if_icmp .eq 436, 3), (1030, .iconst 0, 1), (1031, .ireturn, 1), (1032, .aload_n 1, 1), (1033, .aload_n 0, 1), (1034, .iload 4, 2), (1036, .iconst 1, 1),
    (1037, .iadd, 1), (1038, .iaload, 1), (1039, .aload_n 0, 1), (1040, .iload 4, 2), (1042, .iconst 2, 1), (1043, .iadd, 1), (1044, .iaload, 1), (1045, .aload_n 0, 1), (1046, .iload 4, 2), (1048, .iconst 3, 1), (1049, .iadd, 1), (1050, .iaload, 1),
    (1051, .invokevirtual 103, 3), (1054, .aload_n 2, 1), (1055, .aload_n 0, 1), (1056, .iload 4, 2), (1058, .iconst 1, 1), (1059, .iadd, 1), (1060, .iaload, 1), (1061, .aload_n 0, 1), (1062, .iload 4, 2), (1064, .iconst 2, 1), (1065, .iadd, 1), (1066, .iaload, 1),
    (1067, .aload_n 0, 1), (1068, .iload 4, 2), (1070, .iconst 3, 1), (1071, .iadd, 1), (1072, .iaload, 1), (1073, .invokevirtual 106, 3), (1076, .if_icmp .eq 387, 3), (1079, .iconst 0, 1), (1080, .ireturn, 1), (1081, .aload_n 1, 1), (1082, .aload_n 0, 1), (1083, .iload 4, 2),
    (1085, .iconst 1, 1), (1086, .iadd, 1), (1087, .iaload, 1), (1088, .aload_n 0, 1), (1089, .iload 4, 2), (1091, .iconst 2, 1), (1092, .iadd, 1), (1093, .iaload, 1), (1094, .aload_n 0, 1), (1095, .iload 4, 2), (1097, .iconst 3, 1), (1098, .iadd, 1),
    (1099, .iaload, 1), (1100, .invokevirtual 107, 3), (1103, .aload_n 2, 1), (1104, .aload_n 0, 1), (1105, .iload 4, 2), (1107, .iconst 1, 1), (1108, .iadd, 1), (1109, .iaload, 1), (1110, .aload_n 0, 1), (1111, .iload 4, 2), (1113, .iconst 2, 1), (1114, .iadd, 1),
    (1115, .iaload, 1), (1116, .aload_n 0, 1), (1117, .iload 4, 2), (1119, .iconst 3, 1), (1120, .iadd, 1), (1121, .iaload, 1), (1122, .invokevirtual 110, 3), (1125, .if_icmp .eq 338, 3), (1128, .iconst 0, 1), (1129, .ireturn, 1), (1130, .aload_n 1, 1), (1131, .aload_n 0, 1),
    (1132, .iload 4, 2), (1134, .iconst 1, 1), (1135, .iadd, 1), (1136, .iaload, 1), (1137, .aload_n 0, 1), (1138, .iload 4, 2), (1140, .iconst 2, 1), (1141, .iadd, 1), (1142, .iaload, 1), (1143, .aload_n 0, 1), (1144, .iload 4, 2), (1146, .iconst 3, 1),
    (1147, .iadd, 1), (1148, .iaload, 1), (1149, .invokevirtual 111, 3), (1152, .aload_n 2, 1), (1153, .aload_n 0, 1), (1154, .iload 4, 2), (1156, .iconst 1, 1), (1157, .iadd, 1), (1158, .iaload, 1), (1159, .aload_n 0, 1), (1160, .iload 4, 2), (1162, .iconst 2, 1),
    (1163, .iadd, 1), (1164, .iaload, 1), (1165, .aload_n 0, 1), (1166, .iload 4, 2), (1168, .iconst 3, 1), (1169, .iadd, 1), (1170, .iaload, 1), (1171, .invokevirtual 114, 3), (1174, .if_icmp .eq 289, 3), (1177, .iconst 0, 1), (1178, .ireturn, 1), (1179, .aload_n 1, 1),
    (1180, .aload_n 0, 1), (1181, .iload 4, 2), (1183, .iconst 1, 1), (1184, .iadd, 1), (1185, .iaload, 1), (1186, .aload_n 0, 1), (1187, .iload 4, 2), (1189, .iconst 2, 1), (1190, .iadd, 1), (1191, .iaload, 1), (1192, .invokevirtual 115, 3), (1195, .aload_n 2, 1),
    (1196, .aload_n 0, 1), (1197, .iload 4, 2), (1199, .iconst 1, 1), (1200, .iadd, 1), (1201, .iaload, 1), (1202, .aload_n 0, 1), (1203, .iload 4, 2), (1205, .iconst 2, 1), (1206, .iadd, 1), (1207, .iaload, 1), (1208, .invokevirtual 118, 3), (1211, .if_icmp .eq 252, 3),
    (1214, .iconst 0, 1), (1215, .ireturn, 1), (1216, .aload_n 1, 1), (1217, .aload_n 0, 1), (1218, .iload 4, 2), (1220, .iconst 1, 1), (1221, .iadd, 1), (1222, .iaload, 1), (1223, .aload_n 0, 1), (1224, .iload 4, 2), (1226, .iconst 2, 1), (1227, .iadd, 1),
    (1228, .iaload, 1), (1229, .aload_n 0, 1), (1230, .iload 4, 2), (1232, .iconst 3, 1), (1233, .iadd, 1), (1234, .iaload, 1), (1235, .invokevirtual 119, 3), (1238, .aload_n 2, 1), (1239, .aload_n 0, 1), (1240, .iload 4, 2), (1242, .iconst 1, 1), (1243, .iadd, 1),
    (1244, .iaload, 1), (1245, .aload_n 0, 1), (1246, .iload 4, 2), (1248, .iconst 2, 1), (1249, .iadd, 1), (1250, .iaload, 1), (1251, .aload_n 0, 1), (1252, .iload 4, 2), (1254, .iconst 3, 1), (1255, .iadd, 1), (1256, .iaload, 1), (1257, .invokevirtual 122, 3),
    (1260, .if_icmp .eq 203, 3), (1263, .iconst 0, 1), (1264, .ireturn, 1), (1265, .aload_n 1, 1), (1266, .aload_n 0, 1), (1267, .iload 4, 2), (1269, .iconst 1, 1), (1270, .iadd, 1), (1271, .iaload, 1), (1272, .aload_n 0, 1), (1273, .iload 4, 2), (1275, .iconst 2, 1),
    (1276, .iadd, 1), (1277, .iaload, 1), (1278, .aload_n 0, 1), (1279, .iload 4, 2), (1281, .iconst 3, 1), (1282, .iadd, 1), (1283, .iaload, 1), (1284, .invokevirtual 123, 3), (1287, .aload_n 2, 1), (1288, .aload_n 0, 1), (1289, .iload 4, 2), (1291, .iconst 1, 1),
    (1292, .iadd, 1), (1293, .iaload, 1), (1294, .aload_n 0, 1), (1295, .iload 4, 2), (1297, .iconst 2, 1), (1298, .iadd, 1), (1299, .iaload, 1), (1300, .aload_n 0, 1), (1301, .iload 4, 2), (1303, .iconst 3, 1), (1304, .iadd, 1), (1305, .iaload, 1),
    (1306, .invokevirtual 126, 3), (1309, .if_icmp .eq 154, 3), (1312, .iconst 0, 1), (1313, .ireturn, 1), (1314, .aload_n 1, 1), (1315, .aload_n 0, 1), (1316, .iload 4, 2), (1318, .iconst 1, 1), (1319, .iadd, 1), (1320, .iaload, 1), (1321, .aload_n 0, 1), (1322, .iload 4, 2),
    (1324, .iconst 2, 1), (1325, .iadd, 1), (1326, .iaload, 1), (1327, .invokevirtual 127, 3), (1330, .aload_n 2, 1), (1331, .aload_n 0, 1), (1332, .iload 4, 2), (1334, .iconst 1, 1), (1335, .iadd, 1), (1336, .iaload, 1), (1337, .aload_n 0, 1), (1338, .iload 4, 2),
    (1340, .iconst 2, 1), (1341, .iadd, 1), (1342, .iaload, 1), (1343, .invokevirtual 130, 3), (1346, .if_icmp .eq 117, 3), (1349, .iconst 0, 1), (1350, .ireturn, 1), (1351, .aload_n 1, 1), (1352, .aload_n 0, 1), (1353, .iload 4, 2), (1355, .iconst 1, 1), (1356, .iadd, 1),
    (1357, .iaload, 1), (1358, .aload_n 0, 1), (1359, .iload 4, 2), (1361, .iconst 2, 1), (1362, .iadd, 1), (1363, .iaload, 1), (1364, .aload_n 0, 1), (1365, .iload 4, 2), (1367, .iconst 3, 1), (1368, .iadd, 1), (1369, .iaload, 1), (1370, .invokevirtual 131, 3),
    (1373, .aload_n 2, 1), (1374, .aload_n 0, 1), (1375, .iload 4, 2), (1377, .iconst 1, 1), (1378, .iadd, 1), (1379, .iaload, 1), (1380, .aload_n 0, 1), (1381, .iload 4, 2), (1383, .iconst 2, 1), (1384, .iadd, 1), (1385, .iaload, 1), (1386, .aload_n 0, 1),
    (1387, .iload 4, 2), (1389, .iconst 3, 1), (1390, .iadd, 1), (1391, .iaload, 1), (1392, .invokevirtual 134, 3), (1395, .if_icmp .eq 68, 3), (1398, .iconst 0, 1), (1399, .ireturn, 1), (1400, .aload_n 1, 1), (1401, .aload_n 0, 1), (1402, .iload 4, 2), (1404, .iconst 1, 1),
    (1405, .iadd, 1), (1406, .iaload, 1), (1407, .invokevirtual 135, 3), (1410, .aload_n 2, 1), (1411, .aload_n 0, 1), (1412, .iload 4, 2), (1414, .iconst 1, 1), (1415, .iadd, 1), (1416, .iaload, 1), (1417, .invokevirtual 138, 3), (1420, .if_icmp .eq 43, 3), (1423, .iconst 0, 1),
    (1424, .ireturn, 1), (1425, .aload_n 1, 1), (1426, .invokevirtual 139, 3), (1429, .aload_n 2, 1), (1430, .invokevirtual 142, 3), (1433, .if_icmp .eq 30, 3), (1436, .iconst 0, 1), (1437, .ireturn, 1), (1438, .aload_n 1, 1), (1439, .aload_n 0, 1), (1440, .iload 4, 2), (1442, .iconst 1, 1),
    (1443, .iadd, 1), (1444, .iaload, 1), (1445, .invokevirtual 143, 3), (1448, .aload_n 2, 1), (1449, .aload_n 0, 1), (1450, .iload 4, 2), (1452, .iconst 1, 1), (1453, .iadd, 1), (1454, .iaload, 1), (1455, .invokevirtual 146, 3), (1458, .if_icmp .eq 5, 3), (1461, .iconst 0, 1),
    (1462, .ireturn, 1), (1463, .iinc 4 6, 3), (1466, .goto (-1443), 3), (1469, .iconst 1, 1), (1470, .ireturn, 1)]
def zx_mlaw : zx_MD := (zx_tlaw, ((zx_fd zx_Fc13, zx_fd zx_Sc13, zx_fd zx_Cc13, zx_fd zx_Ic13, zx_has zx_Lc13, zx_fd [], 7, false, (600002, 7302232), true), (zx_fd zx_Kc13, 1)))
def zx_Pt : List (Option zx_MD) := [some zx_m0, some zx_m1, some zx_m2, some zx_m3, some zx_m4, some zx_m5, some zx_m6, some zx_m7, some zx_m8, some zx_m9, some zx_m10, some zx_m11, some zx_m12, some zx_m13, some zx_m14, some zx_m15, some zx_m16, some zx_m17, some zx_m18, some zx_m19, some zx_m20, some zx_m21, some zx_m22, some zx_m23, some zx_m24, some zx_m25, some zx_m26, some zx_m27, some zx_m28, some zx_m29, some zx_m30, some zx_m31, some zx_m32, some zx_m33, some zx_m34, some zx_m35, some zx_m36, some zx_m37, some zx_m38, some zx_m39, some zx_m40, some zx_m41, some zx_m42, some zx_m43, some zx_m44, some zx_m45, some zx_m46, some zx_m47, some zx_m48, some zx_m49, some zx_m50, some zx_m51, some zx_m52, some zx_m53, some zx_m54, some zx_m55, some zx_m56, some zx_m57, some zx_m58, some zx_m59, some zx_m60, some zx_m61, some zx_m62, some zx_m63, some zx_m64, some zx_m65, some zx_m66, some zx_m67, some zx_m68, some zx_m69, some zx_m70, some zx_m71, some zx_m72, some zx_m73, some zx_m74, some zx_m75, some zx_m76, some zx_m77, some zx_m78, some zx_m79, some zx_m80, some zx_m81, some zx_m82, some zx_m83, some zx_m84, some zx_m85, some zx_m86, some zx_m87, some zx_m88, some zx_m89, some zx_m90, some zx_m91, some zx_m92, some zx_m93, some zx_m94, some zx_m95, some zx_m96, some zx_m97, some zx_m98, some zx_m99, some zx_m100, some zx_m101, some zx_m102, some zx_m103, some zx_m104, some zx_m105, some zx_m106, some zx_m107, some zx_m108]
end
section
/-! zx: the tables hold -/
def zx_chkF (own : String) (ini : Bool) (i : Nat) (q : Nat × (Nat × Nat × Nat × Bool)) : Bool := match vwCl[q.2.1]? with
  | some (_, T, N) => decide (q.2.2.1 < N) && (zx_w i (.fieldLink own q.1 (T q.2.2.1).1 (T q.2.2.1).2.1 (T q.2.2.1).2.2.1) && ((match parseFieldDescriptor (T q.2.2.1).2.2.1 with
    | some ty => zx_tag ty == q.2.2.2.1
    | none => false) && (((T q.2.2.1).2.2.2 == q.2.2.2.2) && (!q.2.2.2.2 || (!ini || (T q.2.2.1).1 == own)))))
  | none => false
def zx_chkS (own : String) (i : Nat) (q : Nat × Nat) : Bool := zx_sts.any (fun t => t.2.2.2 == q.2 && (zx_w i (.fieldLink own q.1 t.1 t.2.1 t.2.2.1) || decide (Jvm.Cond.fieldLinkNest own q.1 t.1 t.2.1 t.2.2.1 "OperaHouse" ∈ zx_nw)))
def zx_chkC (own : String) (p : List Nat) (q : Nat × Nat) : Bool := match vwCl[q.2]? with
  | some (C, _, N) => if q.1 < 65536 then zx_w (p.getD 0 0) (.classLink own q.1 C) && (zx_w (p.getD 1 0) (.instantiable C N) && zx_w (p.getD 2 0) (.initialized C)) else zx_w (p.getD 0 0) (.classLink own (q.1 - 65536) C) && decide (C ∈ zx_aos)
  | none => false
def zx_chkI (own : String) (i : Nat) (q : Nat × Int) : Bool := decide (-2147483648 ≤ q.2) && (decide (q.2 ≤ 2147483647) && zx_w i (.constant own q.1 (Int32.ofInt q.2)))
def zx_chkL (own : String) (i : Nat) (q : Nat × Int64) : Bool := zx_w i (.constantLong own q.1 q.2)
def zx_all3 {α : Type} (f : List Nat → α → Bool) : List (List Nat) → List α → Bool
  | _, [] => true
  | [], _ :: _ => false
  | i :: p, a :: r => f i a && zx_all3 f p r
theorem zx_all3_ok {α : Type} {f : List Nat → α → Bool} : ∀ {p : List (List Nat)} {r : List α} {a : α}, zx_all3 f p r = true → a ∈ r → ∃ i, f i a = true
  | _, [], _, _, h => nomatch h
  | [], _ :: _, _, h, _ => nomatch h
  | i :: p, b :: r, a, h, ha => by
    rw [zx_all3, Bool.and_eq_true] at h
    rcases List.mem_cons.mp ha with e | e
    · subst e; exact ⟨i, h.1⟩
    · exact zx_all3_ok h.2 e
theorem zx_has_mem {i : Nat} : ∀ {l : List Nat}, zx_has l i = true → i ∈ l
  | [], h => nomatch h
  | q :: r, h => by
    rw [zx_has] at h
    by_cases hq : q = i
    · subst hq; exact List.mem_cons_self
    · rw [if_neg hq] at h
      exact List.mem_cons_of_mem _ (zx_has_mem h)
def zx_chkK (own : String) (p : List Nat) (q : Nat × (Nat × Nat × Nat × Nat)) : Bool :=
  if q.2.1 = 5 then zx_w (p.getD 0 0) (.methodLink own q.1 objectInit) && (zx_w (p.getD 1 0) (.instanceMethod objectInit) && zx_w (p.getD 2 0) (.code objectInit ⟨#[0xb1]⟩ 1 none)) else match zx_PRt[q.2.2.1]? with
  | some (y, cc, maxL, ret) => decide (maxL ≤ 80) && (true && (zx_w (p.getD 1 0) (.initialized y.cls) && (decide (y.cls ≠ "java/lang/invoke/MethodHandle") && (decide (y.cls ≠ "java/lang/invoke/VarHandle") && (match q.2.1 with
    | 0 => zx_w (p.getD 2 0) (.methodLink own q.1 y) && (zx_w (p.getD 3 0) (.instanceMethod y) && (zx_w (p.getD 4 0) (.selects y.cls y y) && (decide ((parseMethodDescriptor y.desc).map (fun d => d.parameters.length) = some (q.2.2.2.1 - 1)) && (match vwCl[q.2.2.2.2]? with
      | some (C, _, _) => decide (C = y.cls)
      | none => false))))
    | 1 => zx_w (p.getD 2 0) (.methodLink own q.1 y) && (zx_w (p.getD 3 0) (.static y) && decide ((parseMethodDescriptor y.desc).map (fun d => d.parameters.length) = some q.2.2.2.1))
    | 2 => zx_w (p.getD 2 0) (.methodLink own q.1 y) && (zx_w (p.getD 3 0) (.instanceMethod y) && (decide (y.name = "<init>") && (decide (ret = none) && decide ((parseMethodDescriptor y.desc).map (fun d => d.parameters.length) = some (q.2.2.2.1 - 1)))))
    | 3 => decide (Jvm.Cond.methodLinkNest own q.1 y "OperaHouse" ∈ zx_nw) && (zx_w (p.getD 2 0) (.static y) && decide ((parseMethodDescriptor y.desc).map (fun d => d.parameters.length) = some q.2.2.2.1))
    | 4 => decide (Jvm.Cond.methodLinkNest own q.1 y "OperaHouse" ∈ zx_nw) && (zx_w (p.getD 2 0) (.instanceMethod y) && (decide (y.name = "<init>") && (decide (ret = none) && decide ((parseMethodDescriptor y.desc).map (fun d => d.parameters.length) = some (q.2.2.2.1 - 1)))))
    | _ => false)))))
  | none => false
def zx_mkall (own : String) (F : List (Nat × (Nat × Nat × Nat × Bool))) (pF : List Nat) (ini : Bool) (S : List (Nat × Nat)) (pS : List Nat) (C : List (Nat × Nat)) (pC : List (List Nat)) (Ic : List (Nat × Int)) (pI : List Nat) (L : List (Nat × Int64)) (pL : List Nat) : Bool :=
  zx_all2 (zx_chkF own ini) pF F && (zx_all2 (zx_chkS own) pS S && (zx_all3 (zx_chkC own) pC C && (zx_all2 (zx_chkI own) pI Ic && zx_all2 (zx_chkL own) pL L)))
theorem zx_MK_of {own : String} {F : List (Nat × (Nat × Nat × Nat × Bool))} {pF : List Nat} {ini : Bool} {S : List (Nat × Nat)} {pS : List Nat} {C : List (Nat × Nat)} {pC : List (List Nat)} {Ic : List (Nat × Int)} {pI : List Nat} {L : List (Nat × Int64)} {pL : List Nat} {Ll : List Nat} {N : Nat → Option (Bool × Int × Int)} {mv : Nat} {rm : Nat × Nat} {xb : Bool} (h : zx_mkall own F pF ini S pS C pC Ic pI L pL = true) (hL : Ll = L.map Prod.fst) : zx_MK own vwCl zx_Ts zx_nw zx_sts zx_aos (zx_fd F, zx_fd S, zx_fd C, zx_fd Ic, zx_has Ll, N, mv, ini, rm, xb) := by
  unfold zx_mkall at h
  simp only [Bool.and_eq_true] at h
  obtain ⟨h1, h2, h3, h4, h5⟩ := h
  refine ⟨fun ix q hq => ?_, fun ix id hq => ?_, fun ix ci hq => ?_, fun ix n hq => ?_, fun ix hq => ?_⟩
  · obtain ⟨i, hi⟩ := zx_all2_ok h1 (zx_fd_mem hq)
    unfold zx_chkF at hi
    dsimp only at hi
    split at hi
    · rename_i C0 T N0 hc
      simp only [Bool.and_eq_true, decide_eq_true_iff] at hi
      obtain ⟨g1, g2, g3, g4, g5⟩ := hi
      split at g3
      · rename_i ty hty
        refine ⟨C0, T, N0, ty, hc, g1, zx_w_ok g2, hty, by simpa using g3, by simpa using g4, fun hf => ?_⟩
        rw [hf] at g5
        cases ini with
        | false => exact Or.inr rfl
        | true => exact Or.inl (by simpa using g5)
      · cases g3
    · cases hi
  · obtain ⟨i, hi⟩ := zx_all2_ok h2 (zx_fd_mem hq)
    unfold zx_chkS at hi
    obtain ⟨t, t1, t2⟩ := List.any_eq_true.mp hi
    simp only [Bool.and_eq_true, Bool.or_eq_true, beq_iff_eq, decide_eq_true_iff] at t2
    refine ⟨t, t1, t2.1, ?_⟩
    rcases t2.2 with g | g
    · exact Or.inl (zx_w_ok g)
    · exact Or.inr ⟨_, g⟩
  · obtain ⟨i, hi⟩ := zx_all3_ok h3 (zx_fd_mem hq)
    unfold zx_chkC at hi
    dsimp only at hi
    split at hi
    · rename_i C0 T N0 hc
      refine ⟨C0, T, N0, hc, fun hx => ?_, fun hx => ?_⟩
      · rw [if_pos hx] at hi
        simp only [Bool.and_eq_true] at hi
        exact ⟨zx_w_ok hi.1, zx_w_ok hi.2.1, zx_w_ok hi.2.2⟩
      · rw [if_neg (by omega)] at hi
        simp only [Bool.and_eq_true, decide_eq_true_iff] at hi
        exact ⟨zx_w_ok hi.1, hi.2⟩
    · cases hi
  · obtain ⟨i, hi⟩ := zx_all2_ok h4 (zx_fd_mem hq)
    unfold zx_chkI at hi
    simp only [Bool.and_eq_true, decide_eq_true_iff] at hi
    exact ⟨Int32.ofInt n, zx_ofI hi.1 hi.2.1, zx_w_ok hi.2.2⟩
  · have hm : ix ∈ L.map Prod.fst := by rw [← hL]; exact zx_has_mem hq
    obtain ⟨q, q1, q2⟩ := List.mem_map.mp hm
    obtain ⟨i, hi⟩ := zx_all2_ok h5 q1
    unfold zx_chkL at hi
    rw [q2] at hi
    exact ⟨q.2, zx_w_ok hi⟩
theorem zx_LK_of {own : String} (hcode : ∀ (j : Nat) (y : MethodName) (cc : ByteArray) (maxL : Nat) (ret : Option FieldType), zx_PRt[j]? = some (y, cc, maxL, ret) → Jvm.Cond.code y cc maxL ret ∈ zx_Ts) {K : List (Nat × (Nat × Nat × Nat × Nat))} {pK : List (List Nat)} (h : zx_all3 (zx_chkK own) pK K = true) : zx_LK own vwCl zx_Ts zx_nw zx_PRt (zx_fd K) := by
  intro ix q hq
  obtain ⟨p, hp⟩ := zx_all3_ok h (zx_fd_mem hq)
  unfold zx_chkK at hp
  dsimp only at hp
  split at hp
  · rename_i h5
    simp only [Bool.and_eq_true] at hp
    exact ⟨fun _ => ⟨zx_w_ok hp.1, zx_w_ok hp.2.1, zx_w_ok hp.2.2⟩, fun g => absurd h5 g⟩
  · rename_i h5
    refine ⟨fun g => absurd g h5, fun _ => ?_⟩
    split at hp
    · rename_i y cc maxL ret hpr
      simp only [Bool.and_eq_true, decide_eq_true_iff] at hp
      obtain ⟨g1, g2, g3, g4, g5, g6⟩ := hp
      refine ⟨y, cc, maxL, ret, hpr, g1, hcode _ _ _ _ _ hpr, zx_w_ok g3, g4, g5, fun g => ?_, fun g => ?_, fun g => ?_, fun g => ?_, fun g => ?_⟩
      · rw [g] at g6
        simp only [Bool.and_eq_true, decide_eq_true_iff] at g6
        obtain ⟨k1, k2, k3, k4, k5⟩ := g6
        split at k5
        · rename_i C0 T N0 hc
          have k5 : C0 = y.cls := by simpa using k5
          exact ⟨zx_w_ok k1, zx_w_ok k2, zx_w_ok k3, k4, T, N0, by rw [hc, k5]⟩
        · cases k5
      · rw [g] at g6
        simp only [Bool.and_eq_true, decide_eq_true_iff] at g6
        exact ⟨zx_w_ok g6.1, zx_w_ok g6.2.1, g6.2.2⟩
      · rw [g] at g6
        simp only [Bool.and_eq_true, decide_eq_true_iff] at g6
        exact ⟨zx_w_ok g6.1, zx_w_ok g6.2.1, g6.2.2.1, g6.2.2.2.1, g6.2.2.2.2⟩
      · rw [g] at g6
        simp only [Bool.and_eq_true, decide_eq_true_iff] at g6
        exact ⟨_, g6.1, zx_w_ok g6.2.1, g6.2.2⟩
      · rw [g] at g6
        simp only [Bool.and_eq_true, decide_eq_true_iff] at g6
        exact ⟨_, g6.1, zx_w_ok g6.2.1, g6.2.2.1, g6.2.2.2.1, g6.2.2.2.2⟩
    · cases hp
def zx_tbk (cc : ByteArray) (tbl : List (Nat × Instr × Nat)) : Bool := tbl.all (fun x => decide (decode cc x.1 = .ok (x.2.1, x.2.2)) && (zx_istab x.2.1 || x.2.2 == zx_len x.2.1))
theorem zx_TB_of {cc : ByteArray} {tbl : List (Nat × Instr × Nat)} (h : zx_tbk cc tbl = true) : zx_TB cc tbl := by
  intro x hx
  have h1 := List.all_eq_true.mp h x hx
  simp only [Bool.and_eq_true, Bool.or_eq_true, decide_eq_true_iff, beq_iff_eq] at h1
  exact h1
end
section
/-! zx: class by class, method by method -/
set_option maxRecDepth 1000000 in
theorem zx_kFc0 : zx_mkall zx_oc0 zx_Fc0 zx_pFc0 false zx_Sc0 zx_pSc0 zx_Cc0 zx_pCc0 zx_Ic0 zx_pIc0 zx_Lvc0 zx_pLc0 = true := by decide +kernel
set_option maxRecDepth 1000000 in
theorem zx_kFic0 : zx_mkall zx_oc0 zx_Fic0 zx_pFic0 true zx_Sc0 zx_pSc0 zx_Cc0 zx_pCc0 zx_Ic0 zx_pIc0 zx_Lvc0 zx_pLc0 = true := by decide +kernel
set_option maxRecDepth 1000000 in
theorem zx_kKc0 : zx_all3 (zx_chkK zx_oc0) zx_pKc0 zx_Kc0 = true := by decide +kernel
theorem zx_kLc0 : zx_Lc0 = zx_Lvc0.map Prod.fst := by decide +kernel
set_option maxRecDepth 1000000 in
theorem zx_kFc1 : zx_mkall zx_oc1 zx_Fc1 zx_pFc1 false zx_Sc1 zx_pSc1 zx_Cc1 zx_pCc1 zx_Ic1 zx_pIc1 zx_Lvc1 zx_pLc1 = true := by decide +kernel
set_option maxRecDepth 1000000 in
theorem zx_kFic1 : zx_mkall zx_oc1 zx_Fic1 zx_pFic1 true zx_Sc1 zx_pSc1 zx_Cc1 zx_pCc1 zx_Ic1 zx_pIc1 zx_Lvc1 zx_pLc1 = true := by decide +kernel
set_option maxRecDepth 1000000 in
theorem zx_kKc1 : zx_all3 (zx_chkK zx_oc1) zx_pKc1 zx_Kc1 = true := by decide +kernel
theorem zx_kLc1 : zx_Lc1 = zx_Lvc1.map Prod.fst := by decide +kernel
set_option maxRecDepth 1000000 in
theorem zx_kFc2 : zx_mkall zx_oc2 zx_Fc2 zx_pFc2 false zx_Sc2 zx_pSc2 zx_Cc2 zx_pCc2 zx_Ic2 zx_pIc2 zx_Lvc2 zx_pLc2 = true := by decide +kernel
set_option maxRecDepth 1000000 in
theorem zx_kFic2 : zx_mkall zx_oc2 zx_Fic2 zx_pFic2 true zx_Sc2 zx_pSc2 zx_Cc2 zx_pCc2 zx_Ic2 zx_pIc2 zx_Lvc2 zx_pLc2 = true := by decide +kernel
set_option maxRecDepth 1000000 in
theorem zx_kKc2 : zx_all3 (zx_chkK zx_oc2) zx_pKc2 zx_Kc2 = true := by decide +kernel
theorem zx_kLc2 : zx_Lc2 = zx_Lvc2.map Prod.fst := by decide +kernel
set_option maxRecDepth 1000000 in
theorem zx_kFc3 : zx_mkall zx_oc3 zx_Fc3 zx_pFc3 false zx_Sc3 zx_pSc3 zx_Cc3 zx_pCc3 zx_Ic3 zx_pIc3 zx_Lvc3 zx_pLc3 = true := by decide +kernel
set_option maxRecDepth 1000000 in
theorem zx_kFic3 : zx_mkall zx_oc3 zx_Fic3 zx_pFic3 true zx_Sc3 zx_pSc3 zx_Cc3 zx_pCc3 zx_Ic3 zx_pIc3 zx_Lvc3 zx_pLc3 = true := by decide +kernel
set_option maxRecDepth 1000000 in
theorem zx_kKc3 : zx_all3 (zx_chkK zx_oc3) zx_pKc3 zx_Kc3 = true := by decide +kernel
theorem zx_kLc3 : zx_Lc3 = zx_Lvc3.map Prod.fst := by decide +kernel
set_option maxRecDepth 1000000 in
theorem zx_kFc4 : zx_mkall zx_oc4 zx_Fc4 zx_pFc4 false zx_Sc4 zx_pSc4 zx_Cc4 zx_pCc4 zx_Ic4 zx_pIc4 zx_Lvc4 zx_pLc4 = true := by decide +kernel
set_option maxRecDepth 1000000 in
theorem zx_kFic4 : zx_mkall zx_oc4 zx_Fic4 zx_pFic4 true zx_Sc4 zx_pSc4 zx_Cc4 zx_pCc4 zx_Ic4 zx_pIc4 zx_Lvc4 zx_pLc4 = true := by decide +kernel
set_option maxRecDepth 1000000 in
theorem zx_kKc4 : zx_all3 (zx_chkK zx_oc4) zx_pKc4 zx_Kc4 = true := by decide +kernel
theorem zx_kLc4 : zx_Lc4 = zx_Lvc4.map Prod.fst := by decide +kernel
set_option maxRecDepth 1000000 in
theorem zx_kFc5 : zx_mkall zx_oc5 zx_Fc5 zx_pFc5 false zx_Sc5 zx_pSc5 zx_Cc5 zx_pCc5 zx_Ic5 zx_pIc5 zx_Lvc5 zx_pLc5 = true := by decide +kernel
set_option maxRecDepth 1000000 in
theorem zx_kFic5 : zx_mkall zx_oc5 zx_Fic5 zx_pFic5 true zx_Sc5 zx_pSc5 zx_Cc5 zx_pCc5 zx_Ic5 zx_pIc5 zx_Lvc5 zx_pLc5 = true := by decide +kernel
set_option maxRecDepth 1000000 in
theorem zx_kKc5 : zx_all3 (zx_chkK zx_oc5) zx_pKc5 zx_Kc5 = true := by decide +kernel
theorem zx_kLc5 : zx_Lc5 = zx_Lvc5.map Prod.fst := by decide +kernel
set_option maxRecDepth 1000000 in
theorem zx_kFc6 : zx_mkall zx_oc6 zx_Fc6 zx_pFc6 false zx_Sc6 zx_pSc6 zx_Cc6 zx_pCc6 zx_Ic6 zx_pIc6 zx_Lvc6 zx_pLc6 = true := by decide +kernel
set_option maxRecDepth 1000000 in
theorem zx_kFic6 : zx_mkall zx_oc6 zx_Fic6 zx_pFic6 true zx_Sc6 zx_pSc6 zx_Cc6 zx_pCc6 zx_Ic6 zx_pIc6 zx_Lvc6 zx_pLc6 = true := by decide +kernel
set_option maxRecDepth 1000000 in
theorem zx_kKc6 : zx_all3 (zx_chkK zx_oc6) zx_pKc6 zx_Kc6 = true := by decide +kernel
theorem zx_kLc6 : zx_Lc6 = zx_Lvc6.map Prod.fst := by decide +kernel
set_option maxRecDepth 1000000 in
theorem zx_kFc7 : zx_mkall zx_oc7 zx_Fc7 zx_pFc7 false zx_Sc7 zx_pSc7 zx_Cc7 zx_pCc7 zx_Ic7 zx_pIc7 zx_Lvc7 zx_pLc7 = true := by decide +kernel
set_option maxRecDepth 1000000 in
theorem zx_kFic7 : zx_mkall zx_oc7 zx_Fic7 zx_pFic7 true zx_Sc7 zx_pSc7 zx_Cc7 zx_pCc7 zx_Ic7 zx_pIc7 zx_Lvc7 zx_pLc7 = true := by decide +kernel
set_option maxRecDepth 1000000 in
theorem zx_kKc7 : zx_all3 (zx_chkK zx_oc7) zx_pKc7 zx_Kc7 = true := by decide +kernel
theorem zx_kLc7 : zx_Lc7 = zx_Lvc7.map Prod.fst := by decide +kernel
set_option maxRecDepth 1000000 in
theorem zx_kFc8 : zx_mkall zx_oc8 zx_Fc8 zx_pFc8 false zx_Sc8 zx_pSc8 zx_Cc8 zx_pCc8 zx_Ic8 zx_pIc8 zx_Lvc8 zx_pLc8 = true := by decide +kernel
set_option maxRecDepth 1000000 in
theorem zx_kFic8 : zx_mkall zx_oc8 zx_Fic8 zx_pFic8 true zx_Sc8 zx_pSc8 zx_Cc8 zx_pCc8 zx_Ic8 zx_pIc8 zx_Lvc8 zx_pLc8 = true := by decide +kernel
set_option maxRecDepth 1000000 in
theorem zx_kKc8 : zx_all3 (zx_chkK zx_oc8) zx_pKc8 zx_Kc8 = true := by decide +kernel
theorem zx_kLc8 : zx_Lc8 = zx_Lvc8.map Prod.fst := by decide +kernel
set_option maxRecDepth 1000000 in
theorem zx_kFc9 : zx_mkall zx_oc9 zx_Fc9 zx_pFc9 false zx_Sc9 zx_pSc9 zx_Cc9 zx_pCc9 zx_Ic9 zx_pIc9 zx_Lvc9 zx_pLc9 = true := by decide +kernel
set_option maxRecDepth 1000000 in
theorem zx_kFic9 : zx_mkall zx_oc9 zx_Fic9 zx_pFic9 true zx_Sc9 zx_pSc9 zx_Cc9 zx_pCc9 zx_Ic9 zx_pIc9 zx_Lvc9 zx_pLc9 = true := by decide +kernel
set_option maxRecDepth 1000000 in
theorem zx_kKc9 : zx_all3 (zx_chkK zx_oc9) zx_pKc9 zx_Kc9 = true := by decide +kernel
theorem zx_kLc9 : zx_Lc9 = zx_Lvc9.map Prod.fst := by decide +kernel
set_option maxRecDepth 1000000 in
theorem zx_kFc10 : zx_mkall zx_oc10 zx_Fc10 zx_pFc10 false zx_Sc10 zx_pSc10 zx_Cc10 zx_pCc10 zx_Ic10 zx_pIc10 zx_Lvc10 zx_pLc10 = true := by decide +kernel
set_option maxRecDepth 1000000 in
theorem zx_kFic10 : zx_mkall zx_oc10 zx_Fic10 zx_pFic10 true zx_Sc10 zx_pSc10 zx_Cc10 zx_pCc10 zx_Ic10 zx_pIc10 zx_Lvc10 zx_pLc10 = true := by decide +kernel
set_option maxRecDepth 1000000 in
theorem zx_kKc10 : zx_all3 (zx_chkK zx_oc10) zx_pKc10 zx_Kc10 = true := by decide +kernel
theorem zx_kLc10 : zx_Lc10 = zx_Lvc10.map Prod.fst := by decide +kernel
set_option maxRecDepth 1000000 in
theorem zx_kFc11 : zx_mkall zx_oc11 zx_Fc11 zx_pFc11 false zx_Sc11 zx_pSc11 zx_Cc11 zx_pCc11 zx_Ic11 zx_pIc11 zx_Lvc11 zx_pLc11 = true := by decide +kernel
set_option maxRecDepth 1000000 in
theorem zx_kFic11 : zx_mkall zx_oc11 zx_Fic11 zx_pFic11 true zx_Sc11 zx_pSc11 zx_Cc11 zx_pCc11 zx_Ic11 zx_pIc11 zx_Lvc11 zx_pLc11 = true := by decide +kernel
set_option maxRecDepth 1000000 in
theorem zx_kKc11 : zx_all3 (zx_chkK zx_oc11) zx_pKc11 zx_Kc11 = true := by decide +kernel
theorem zx_kLc11 : zx_Lc11 = zx_Lvc11.map Prod.fst := by decide +kernel
set_option maxRecDepth 1000000 in
theorem zx_kFc12 : zx_mkall zx_oc12 zx_Fc12 zx_pFc12 false zx_Sc12 zx_pSc12 zx_Cc12 zx_pCc12 zx_Ic12 zx_pIc12 zx_Lvc12 zx_pLc12 = true := by decide +kernel
set_option maxRecDepth 1000000 in
theorem zx_kFic12 : zx_mkall zx_oc12 zx_Fic12 zx_pFic12 true zx_Sc12 zx_pSc12 zx_Cc12 zx_pCc12 zx_Ic12 zx_pIc12 zx_Lvc12 zx_pLc12 = true := by decide +kernel
set_option maxRecDepth 1000000 in
theorem zx_kKc12 : zx_all3 (zx_chkK zx_oc12) zx_pKc12 zx_Kc12 = true := by decide +kernel
theorem zx_kLc12 : zx_Lc12 = zx_Lvc12.map Prod.fst := by decide +kernel
set_option maxRecDepth 1000000 in
theorem zx_kFc13 : zx_mkall zx_oc13 zx_Fc13 zx_pFc13 false zx_Sc13 zx_pSc13 zx_Cc13 zx_pCc13 zx_Ic13 zx_pIc13 zx_Lvc13 zx_pLc13 = true := by decide +kernel
set_option maxRecDepth 1000000 in
theorem zx_kFic13 : zx_mkall zx_oc13 zx_Fic13 zx_pFic13 true zx_Sc13 zx_pSc13 zx_Cc13 zx_pCc13 zx_Ic13 zx_pIc13 zx_Lvc13 zx_pLc13 = true := by decide +kernel
set_option maxRecDepth 1000000 in
theorem zx_kKc13 : zx_all3 (zx_chkK zx_oc13) zx_pKc13 zx_Kc13 = true := by decide +kernel
theorem zx_kLc13 : zx_Lc13 = zx_Lvc13.map Prod.fst := by decide +kernel
set_option maxRecDepth 1000000 in
theorem zx_Ts_good : zx_Ts.all goodWord = true := List.all_eq_true.mpr (fun _ h => (List.mem_filter.mp h).2)
theorem zx_nw_kind : zx_nw.all zx_nk = true := by decide +kernel
set_option maxRecDepth 1000000 in
theorem zx_arrs : ∀ ty ∈ [FieldType.int, FieldType.byte, FieldType.boolean, FieldType.long], Jvm.Cond.arrayClass ty ∈ zx_Ts := by
  intro ty hty
  refine List.mem_filter.mpr ⟨?_, rfl⟩
  simp only [List.mem_cons, List.not_mem_nil, or_false] at hty
  rcases hty with rfl | rfl | rfl | rfl
  · exact zx_chunk_ok (c := 1) (List.mem_of_getElem? (i := 84) (by decide +kernel))
  · exact zx_chunk_ok (c := 6) (List.mem_of_getElem? (i := 21) (by decide +kernel))
  · exact zx_chunk_ok (c := 2) (List.mem_of_getElem? (i := 76) (by decide +kernel))
  · exact zx_chunk_ok (c := 9) (List.mem_of_getElem? (i := 53) (by decide +kernel))
theorem zx_mem {c i : Nat} {w : Jvm.Cond} (h : (zx_chunk c)[i]? = some w) (hg : goodWord w = true) : w ∈ zx_Ts := List.mem_filter.mpr ⟨zx_chunk_ok (List.mem_of_getElem? h), hg⟩
theorem zx_codes : ∀ (j : Nat) (y : MethodName) (cc : ByteArray) (maxL : Nat) (ret : Option FieldType), zx_PRt[j]? = some (y, cc, maxL, ret) → Jvm.Cond.code y cc maxL ret ∈ zx_Ts := by
  intro j y cc maxL ret h
  match j, h with
  | 0, h => cases h; exact zx_mem (c := 1) (i := 30) rfl rfl
  | 1, h => cases h; exact zx_mem (c := 1) (i := 38) rfl rfl
  | 2, h => cases h; exact zx_mem (c := 1) (i := 44) rfl rfl
  | 3, h => cases h; exact zx_mem (c := 1) (i := 49) rfl rfl
  | 4, h => cases h; exact zx_mem (c := 1) (i := 91) rfl rfl
  | 5, h => cases h; exact zx_mem (c := 1) (i := 195) rfl rfl
  | 6, h => cases h; exact zx_mem (c := 2) (i := 5) rfl rfl
  | 7, h => cases h; exact zx_mem (c := 2) (i := 81) rfl rfl
  | 8, h => cases h; exact zx_mem (c := 2) (i := 97) rfl rfl
  | 9, h => cases h; exact zx_mem (c := 2) (i := 136) rfl rfl
  | 10, h => cases h; exact zx_mem (c := 2) (i := 172) rfl rfl
  | 11, h => cases h; exact zx_mem (c := 2) (i := 199) rfl rfl
  | 12, h => cases h; exact zx_mem (c := 3) (i := 50) rfl rfl
  | 13, h => cases h; exact zx_mem (c := 3) (i := 54) rfl rfl
  | 14, h => cases h; exact zx_mem (c := 3) (i := 58) rfl rfl
  | 15, h => cases h; exact zx_mem (c := 3) (i := 62) rfl rfl
  | 16, h => cases h; exact zx_mem (c := 3) (i := 66) rfl rfl
  | 17, h => cases h; exact zx_mem (c := 3) (i := 70) rfl rfl
  | 18, h => cases h; exact zx_mem (c := 3) (i := 73) rfl rfl
  | 19, h => cases h; exact zx_mem (c := 3) (i := 77) rfl rfl
  | 20, h => cases h; exact zx_mem (c := 3) (i := 86) rfl rfl
  | 21, h => cases h; exact zx_mem (c := 3) (i := 90) rfl rfl
  | 22, h => cases h; exact zx_mem (c := 3) (i := 94) rfl rfl
  | 23, h => cases h; exact zx_mem (c := 3) (i := 98) rfl rfl
  | 24, h => cases h; exact zx_mem (c := 3) (i := 102) rfl rfl
  | 25, h => cases h; exact zx_mem (c := 4) (i := 29) rfl rfl
  | 26, h => cases h; exact zx_mem (c := 4) (i := 33) rfl rfl
  | 27, h => cases h; exact zx_mem (c := 4) (i := 41) rfl rfl
  | 28, h => cases h; exact zx_mem (c := 4) (i := 49) rfl rfl
  | 29, h => cases h; exact zx_mem (c := 4) (i := 62) rfl rfl
  | 30, h => cases h; exact zx_mem (c := 4) (i := 66) rfl rfl
  | 31, h => cases h; exact zx_mem (c := 4) (i := 70) rfl rfl
  | 32, h => cases h; exact zx_mem (c := 4) (i := 78) rfl rfl
  | 33, h => cases h; exact zx_mem (c := 4) (i := 87) rfl rfl
  | 34, h => cases h; exact zx_mem (c := 4) (i := 91) rfl rfl
  | 35, h => cases h; exact zx_mem (c := 4) (i := 94) rfl rfl
  | 36, h => cases h; exact zx_mem (c := 4) (i := 102) rfl rfl
  | 37, h => cases h; exact zx_mem (c := 4) (i := 106) rfl rfl
  | 38, h => cases h; exact zx_mem (c := 4) (i := 162) rfl rfl
  | 39, h => cases h; exact zx_mem (c := 4) (i := 166) rfl rfl
  | 40, h => cases h; exact zx_mem (c := 4) (i := 170) rfl rfl
  | 41, h => cases h; exact zx_mem (c := 4) (i := 177) rfl rfl
  | 42, h => cases h; exact zx_mem (c := 4) (i := 181) rfl rfl
  | 43, h => cases h; exact zx_mem (c := 4) (i := 184) rfl rfl
  | 44, h => cases h; exact zx_mem (c := 4) (i := 189) rfl rfl
  | 45, h => cases h; exact zx_mem (c := 4) (i := 195) rfl rfl
  | 46, h => cases h; exact zx_mem (c := 5) (i := 12) rfl rfl
  | 47, h => cases h; exact zx_mem (c := 5) (i := 16) rfl rfl
  | 48, h => cases h; exact zx_mem (c := 5) (i := 21) rfl rfl
  | 49, h => cases h; exact zx_mem (c := 5) (i := 29) rfl rfl
  | 50, h => cases h; exact zx_mem (c := 5) (i := 69) rfl rfl
  | 51, h => cases h; exact zx_mem (c := 5) (i := 73) rfl rfl
  | 52, h => cases h; exact zx_mem (c := 5) (i := 77) rfl rfl
  | 53, h => cases h; exact zx_mem (c := 5) (i := 84) rfl rfl
  | 54, h => cases h; exact zx_mem (c := 5) (i := 98) rfl rfl
  | 55, h => cases h; exact zx_mem (c := 5) (i := 108) rfl rfl
  | 56, h => cases h; exact zx_mem (c := 5) (i := 112) rfl rfl
  | 57, h => cases h; exact zx_mem (c := 5) (i := 116) rfl rfl
  | 58, h => cases h; exact zx_mem (c := 5) (i := 120) rfl rfl
  | 59, h => cases h; exact zx_mem (c := 5) (i := 170) rfl rfl
  | 60, h => cases h; exact zx_mem (c := 5) (i := 174) rfl rfl
  | 61, h => cases h; exact zx_mem (c := 5) (i := 187) rfl rfl
  | 62, h => cases h; exact zx_mem (c := 6) (i := 26) rfl rfl
  | 63, h => cases h; exact zx_mem (c := 7) (i := 95) rfl rfl
  | 64, h => cases h; exact zx_mem (c := 7) (i := 99) rfl rfl
  | 65, h => cases h; exact zx_mem (c := 7) (i := 103) rfl rfl
  | 66, h => cases h; exact zx_mem (c := 7) (i := 107) rfl rfl
  | 67, h => cases h; exact zx_mem (c := 7) (i := 111) rfl rfl
  | 68, h => cases h; exact zx_mem (c := 7) (i := 114) rfl rfl
  | 69, h => cases h; exact zx_mem (c := 7) (i := 118) rfl rfl
  | 70, h => cases h; exact zx_mem (c := 7) (i := 122) rfl rfl
  | 71, h => cases h; exact zx_mem (c := 7) (i := 126) rfl rfl
  | 72, h => cases h; exact zx_mem (c := 7) (i := 130) rfl rfl
  | 73, h => cases h; exact zx_mem (c := 7) (i := 134) rfl rfl
  | 74, h => cases h; exact zx_mem (c := 7) (i := 138) rfl rfl
  | 75, h => cases h; exact zx_mem (c := 7) (i := 142) rfl rfl
  | 76, h => cases h; exact zx_mem (c := 7) (i := 146) rfl rfl
  | 77, h => cases h; exact zx_mem (c := 8) (i := 8) rfl rfl
  | 78, h => cases h; exact zx_mem (c := 8) (i := 12) rfl rfl
  | 79, h => cases h; exact zx_mem (c := 8) (i := 20) rfl rfl
  | 80, h => cases h; exact zx_mem (c := 8) (i := 32) rfl rfl
  | 81, h => cases h; exact zx_mem (c := 8) (i := 36) rfl rfl
  | 82, h => cases h; exact zx_mem (c := 8) (i := 44) rfl rfl
  | 83, h => cases h; exact zx_mem (c := 8) (i := 48) rfl rfl
  | 84, h => cases h; exact zx_mem (c := 8) (i := 52) rfl rfl
  | 85, h => cases h; exact zx_mem (c := 8) (i := 56) rfl rfl
  | 86, h => cases h; exact zx_mem (c := 8) (i := 64) rfl rfl
  | 87, h => cases h; exact zx_mem (c := 8) (i := 76) rfl rfl
  | 88, h => cases h; exact zx_mem (c := 8) (i := 88) rfl rfl
  | 89, h => cases h; exact zx_mem (c := 8) (i := 128) rfl rfl
  | 90, h => cases h; exact zx_mem (c := 8) (i := 132) rfl rfl
  | 91, h => cases h; exact zx_mem (c := 8) (i := 136) rfl rfl
  | 92, h => cases h; exact zx_mem (c := 8) (i := 140) rfl rfl
  | 93, h => cases h; exact zx_mem (c := 8) (i := 143) rfl rfl
  | 94, h => cases h; exact zx_mem (c := 8) (i := 147) rfl rfl
  | 95, h => cases h; exact zx_mem (c := 8) (i := 150) rfl rfl
  | 96, h => cases h; exact zx_mem (c := 8) (i := 153) rfl rfl
  | 97, h => cases h; exact zx_mem (c := 8) (i := 157) rfl rfl
  | 98, h => cases h; exact zx_mem (c := 8) (i := 161) rfl rfl
  | 99, h => cases h; exact zx_mem (c := 8) (i := 165) rfl rfl
  | 100, h => cases h; exact zx_mem (c := 8) (i := 229) rfl rfl
  | 101, h => cases h; exact zx_mem (c := 8) (i := 233) rfl rfl
  | 102, h => cases h; exact zx_mem (c := 8) (i := 237) rfl rfl
  | 103, h => cases h; exact zx_mem (c := 9) (i := 20) rfl rfl
  | 104, h => cases h; exact zx_mem (c := 9) (i := 28) rfl rfl
  | 105, h => cases h; exact zx_mem (c := 9) (i := 32) rfl rfl
  | 106, h => cases h; exact zx_mem (c := 9) (i := 44) rfl rfl
  | 107, h => cases h; exact zx_mem (c := 9) (i := 48) rfl rfl
  | 108, h => cases h; exact zx_mem (c := 9) (i := 52) rfl rfl
  | n + 109, h => simp [zx_PRt] at h
end
section
/-! zx: the code of the methods -/
theorem zx_tbk_cut {cc : ByteArray} {l : List (Nat × Instr × Nat)} (n : Nat) (h1 : zx_tbk cc (l.take n) = true) (h2 : zx_tbk cc (l.drop n) = true) : zx_tbk cc l = true := by
  unfold zx_tbk at *
  rw [← List.take_append_drop n l, List.all_append, h1, h2]
  rfl
set_option maxRecDepth 1000000 in
theorem zx_by0_0 : zx_tbk prog_1_method_1_code (zx_t0.take 40) = true := by decide +kernel
set_option maxRecDepth 1000000 in
theorem zx_by0_1 : zx_tbk prog_1_method_1_code ((zx_t0.drop 40).take 40) = true := by decide +kernel
set_option maxRecDepth 1000000 in
theorem zx_by0_2 : zx_tbk prog_1_method_1_code ((zx_t0.drop 40).drop 40) = true := by decide +kernel
theorem zx_by0 : zx_tbk prog_1_method_1_code zx_t0 = true := zx_tbk_cut 40 zx_by0_0 (zx_tbk_cut 40 zx_by0_1 (zx_by0_2))
set_option maxRecDepth 1000000 in
theorem zx_by1_0 : zx_tbk prog_4_method_1_code (zx_t1.take 40) = true := by decide +kernel
set_option maxRecDepth 1000000 in
theorem zx_by1_1 : zx_tbk prog_4_method_1_code (zx_t1.drop 40) = true := by decide +kernel
theorem zx_by1 : zx_tbk prog_4_method_1_code zx_t1 = true := zx_tbk_cut 40 zx_by1_0 (zx_by1_1)
set_option maxRecDepth 1000000 in
theorem zx_by2 : zx_tbk prog_3_method_1_code zx_t2 = true := by decide +kernel
set_option maxRecDepth 1000000 in
theorem zx_by3 : zx_tbk prog_3_method_2_code zx_t3 = true := by decide +kernel
set_option maxRecDepth 1000000 in
theorem zx_by4 : zx_tbk prog_8_method_1_code zx_t4 = true := by decide +kernel
set_option maxRecDepth 1000000 in
theorem zx_by5 : zx_tbk prog_2_method_1_code zx_t5 = true := by decide +kernel
set_option maxRecDepth 1000000 in
theorem zx_by6_0 : zx_tbk prog_7_method_1_code (zx_t6.take 40) = true := by decide +kernel
set_option maxRecDepth 1000000 in
theorem zx_by6_1 : zx_tbk prog_7_method_1_code (zx_t6.drop 40) = true := by decide +kernel
theorem zx_by6 : zx_tbk prog_7_method_1_code zx_t6 = true := zx_tbk_cut 40 zx_by6_0 (zx_by6_1)
set_option maxRecDepth 1000000 in
theorem zx_by7 : zx_tbk prog_11_method_1_code zx_t7 = true := by decide +kernel
set_option maxRecDepth 1000000 in
theorem zx_by8 : zx_tbk prog_9_method_1_code zx_t8 = true := by decide +kernel
set_option maxRecDepth 1000000 in
theorem zx_by9 : zx_tbk prog_12_method_1_code zx_t9 = true := by decide +kernel
set_option maxRecDepth 1000000 in
theorem zx_by10 : zx_tbk prog_5_method_1_code zx_t10 = true := by decide +kernel
set_option maxRecDepth 1000000 in
theorem zx_by11 : zx_tbk prog_6_method_1_code zx_t11 = true := by decide +kernel
set_option maxRecDepth 1000000 in
theorem zx_by12 : zx_tbk prog_1_method_2_code zx_t12 = true := by decide +kernel
set_option maxRecDepth 1000000 in
theorem zx_by13 : zx_tbk prog_1_method_3_code zx_t13 = true := by decide +kernel
set_option maxRecDepth 1000000 in
theorem zx_by14 : zx_tbk prog_1_method_4_code zx_t14 = true := by decide +kernel
set_option maxRecDepth 1000000 in
theorem zx_by15 : zx_tbk prog_1_method_6_code zx_t15 = true := by decide +kernel
set_option maxRecDepth 1000000 in
theorem zx_by16_0 : zx_tbk prog_1_method_7_code (zx_t16.take 40) = true := by decide +kernel
set_option maxRecDepth 1000000 in
theorem zx_by16_1 : zx_tbk prog_1_method_7_code (zx_t16.drop 40) = true := by decide +kernel
theorem zx_by16 : zx_tbk prog_1_method_7_code zx_t16 = true := zx_tbk_cut 40 zx_by16_0 (zx_by16_1)
set_option maxRecDepth 1000000 in
theorem zx_by17 : zx_tbk prog_1_method_5_code zx_t17 = true := by decide +kernel
set_option maxRecDepth 1000000 in
theorem zx_by18 : zx_tbk prog_1_method_33_code zx_t18 = true := by decide +kernel
set_option maxRecDepth 1000000 in
theorem zx_by19_0 : zx_tbk prog_8_method_2_code (zx_t19.take 40) = true := by decide +kernel
set_option maxRecDepth 1000000 in
theorem zx_by19_1 : zx_tbk prog_8_method_2_code (zx_t19.drop 40) = true := by decide +kernel
theorem zx_by19 : zx_tbk prog_8_method_2_code zx_t19 = true := zx_tbk_cut 40 zx_by19_0 (zx_by19_1)
set_option maxRecDepth 1000000 in
theorem zx_by20 : zx_tbk prog_1_method_8_code zx_t20 = true := by decide +kernel
set_option maxRecDepth 1000000 in
theorem zx_by21 : zx_tbk prog_1_method_9_code zx_t21 = true := by decide +kernel
set_option maxRecDepth 1000000 in
theorem zx_by22 : zx_tbk prog_1_method_10_code zx_t22 = true := by decide +kernel
set_option maxRecDepth 1000000 in
theorem zx_by23 : zx_tbk prog_1_method_11_code zx_t23 = true := by decide +kernel
set_option maxRecDepth 1000000 in
theorem zx_by24 : zx_tbk prog_4_method_4_code zx_t24 = true := by decide +kernel
set_option maxRecDepth 1000000 in
theorem zx_by25 : zx_tbk prog_1_method_12_code zx_t25 = true := by decide +kernel
set_option maxRecDepth 1000000 in
theorem zx_by26 : zx_tbk prog_1_method_13_code zx_t26 = true := by decide +kernel
set_option maxRecDepth 1000000 in
theorem zx_by27 : zx_tbk prog_4_method_2_code zx_t27 = true := by decide +kernel
set_option maxRecDepth 1000000 in
theorem zx_by28_0 : zx_tbk prog_1_method_14_code (zx_t28.take 40) = true := by decide +kernel
set_option maxRecDepth 1000000 in
theorem zx_by28_1 : zx_tbk prog_1_method_14_code (zx_t28.drop 40) = true := by decide +kernel
theorem zx_by28 : zx_tbk prog_1_method_14_code zx_t28 = true := zx_tbk_cut 40 zx_by28_0 (zx_by28_1)
set_option maxRecDepth 1000000 in
theorem zx_by29 : zx_tbk prog_1_method_15_code zx_t29 = true := by decide +kernel
set_option maxRecDepth 1000000 in
theorem zx_by30 : zx_tbk prog_1_method_32_code zx_t30 = true := by decide +kernel
set_option maxRecDepth 1000000 in
theorem zx_by31 : zx_tbk prog_2_method_2_code zx_t31 = true := by decide +kernel
set_option maxRecDepth 1000000 in
theorem zx_by32 : zx_tbk prog_1_method_16_code zx_t32 = true := by decide +kernel
set_option maxRecDepth 1000000 in
theorem zx_by33 : zx_tbk prog_1_method_17_code zx_t33 = true := by decide +kernel
set_option maxRecDepth 1000000 in
theorem zx_by34_0 : zx_tbk prog_7_method_5_code (zx_t34.take 40) = true := by decide +kernel
set_option maxRecDepth 1000000 in
theorem zx_by34_1 : zx_tbk prog_7_method_5_code ((zx_t34.drop 40).take 40) = true := by decide +kernel
set_option maxRecDepth 1000000 in
theorem zx_by34_2 : zx_tbk prog_7_method_5_code (((zx_t34.drop 40).drop 40).take 40) = true := by decide +kernel
set_option maxRecDepth 1000000 in
theorem zx_by34_3 : zx_tbk prog_7_method_5_code (((zx_t34.drop 40).drop 40).drop 40) = true := by decide +kernel
theorem zx_by34 : zx_tbk prog_7_method_5_code zx_t34 = true := zx_tbk_cut 40 zx_by34_0 (zx_tbk_cut 40 zx_by34_1 (zx_tbk_cut 40 zx_by34_2 (zx_by34_3)))
set_option maxRecDepth 1000000 in
theorem zx_by35 : zx_tbk prog_29_method_103_code zx_t35 = true := by decide +kernel
set_option maxRecDepth 1000000 in
theorem zx_by36 : zx_tbk prog_1_method_18_code zx_t36 = true := by decide +kernel
set_option maxRecDepth 1000000 in
theorem zx_by37 : zx_tbk prog_5_method_2_code zx_t37 = true := by decide +kernel
set_option maxRecDepth 1000000 in
theorem zx_by38_0 : zx_tbk prog_5_method_5_code (zx_t38.take 40) = true := by decide +kernel
set_option maxRecDepth 1000000 in
theorem zx_by38_1 : zx_tbk prog_5_method_5_code ((zx_t38.drop 40).take 40) = true := by decide +kernel
set_option maxRecDepth 1000000 in
theorem zx_by38_2 : zx_tbk prog_5_method_5_code ((zx_t38.drop 40).drop 40) = true := by decide +kernel
theorem zx_by38 : zx_tbk prog_5_method_5_code zx_t38 = true := zx_tbk_cut 40 zx_by38_0 (zx_tbk_cut 40 zx_by38_1 (zx_by38_2))
set_option maxRecDepth 1000000 in
theorem zx_by39 : zx_tbk prog_11_method_2_code zx_t39 = true := by decide +kernel
set_option maxRecDepth 1000000 in
theorem zx_by40 : zx_tbk prog_11_method_3_code zx_t40 = true := by decide +kernel
set_option maxRecDepth 1000000 in
theorem zx_by41 : zx_tbk prog_11_method_4_code zx_t41 = true := by decide +kernel
set_option maxRecDepth 1000000 in
theorem zx_by42 : zx_tbk prog_11_method_5_code zx_t42 = true := by decide +kernel
set_option maxRecDepth 1000000 in
theorem zx_by43 : zx_tbk prog_11_method_7_code zx_t43 = true := by decide +kernel
set_option maxRecDepth 1000000 in
theorem zx_by44 : zx_tbk prog_11_method_6_code zx_t44 = true := by decide +kernel
set_option maxRecDepth 1000000 in
theorem zx_by45 : zx_tbk prog_11_method_8_code zx_t45 = true := by decide +kernel
set_option maxRecDepth 1000000 in
theorem zx_by46_0 : zx_tbk prog_5_method_3_code (zx_t46.take 40) = true := by decide +kernel
set_option maxRecDepth 1000000 in
theorem zx_by46_1 : zx_tbk prog_5_method_3_code ((zx_t46.drop 40).take 40) = true := by decide +kernel
set_option maxRecDepth 1000000 in
theorem zx_by46_2 : zx_tbk prog_5_method_3_code ((zx_t46.drop 40).drop 40) = true := by decide +kernel
theorem zx_by46 : zx_tbk prog_5_method_3_code zx_t46 = true := zx_tbk_cut 40 zx_by46_0 (zx_tbk_cut 40 zx_by46_1 (zx_by46_2))
set_option maxRecDepth 1000000 in
theorem zx_by47 : zx_tbk prog_1_method_20_code zx_t47 = true := by decide +kernel
set_option maxRecDepth 1000000 in
theorem zx_by48 : zx_tbk prog_1_method_21_code zx_t48 = true := by decide +kernel
set_option maxRecDepth 1000000 in
theorem zx_by49 : zx_tbk prog_1_method_22_code zx_t49 = true := by decide +kernel
set_option maxRecDepth 1000000 in
theorem zx_by50 : zx_tbk prog_1_method_23_code zx_t50 = true := by decide +kernel
set_option maxRecDepth 1000000 in
theorem zx_by51 : zx_tbk prog_1_method_24_code zx_t51 = true := by decide +kernel
set_option maxRecDepth 1000000 in
theorem zx_by52 : zx_tbk prog_11_method_10_code zx_t52 = true := by decide +kernel
set_option maxRecDepth 1000000 in
theorem zx_by53 : zx_tbk prog_1_method_25_code zx_t53 = true := by decide +kernel
set_option maxRecDepth 1000000 in
theorem zx_by54 : zx_tbk prog_1_method_26_code zx_t54 = true := by decide +kernel
set_option maxRecDepth 1000000 in
theorem zx_by55 : zx_tbk prog_1_method_27_code zx_t55 = true := by decide +kernel
set_option maxRecDepth 1000000 in
theorem zx_by56 : zx_tbk prog_1_method_28_code zx_t56 = true := by decide +kernel
set_option maxRecDepth 1000000 in
theorem zx_by57 : zx_tbk prog_6_method_2_code zx_t57 = true := by decide +kernel
set_option maxRecDepth 1000000 in
theorem zx_by58_0 : zx_tbk prog_6_method_3_code (zx_t58.take 40) = true := by decide +kernel
set_option maxRecDepth 1000000 in
theorem zx_by58_1 : zx_tbk prog_6_method_3_code (zx_t58.drop 40) = true := by decide +kernel
theorem zx_by58 : zx_tbk prog_6_method_3_code zx_t58 = true := zx_tbk_cut 40 zx_by58_0 (zx_by58_1)
set_option maxRecDepth 1000000 in
theorem zx_by59 : zx_tbk prog_1_method_29_code zx_t59 = true := by decide +kernel
set_option maxRecDepth 1000000 in
theorem zx_by60 : zx_tbk prog_1_method_30_code zx_t60 = true := by decide +kernel
set_option maxRecDepth 1000000 in
theorem zx_by61 : zx_tbk prog_1_method_31_code zx_t61 = true := by decide +kernel
set_option maxRecDepth 1000000 in
theorem zx_by62_0 : zx_tbk prog_14_method_1_code (zx_t62.take 40) = true := by decide +kernel
set_option maxRecDepth 1000000 in
theorem zx_by62_1 : zx_tbk prog_14_method_1_code ((zx_t62.drop 40).take 40) = true := by decide +kernel
set_option maxRecDepth 1000000 in
theorem zx_by62_2 : zx_tbk prog_14_method_1_code (((zx_t62.drop 40).drop 40).take 40) = true := by decide +kernel
set_option maxRecDepth 1000000 in
theorem zx_by62_3 : zx_tbk prog_14_method_1_code ((((zx_t62.drop 40).drop 40).drop 40).take 40) = true := by decide +kernel
set_option maxRecDepth 1000000 in
theorem zx_by62_4 : zx_tbk prog_14_method_1_code (((((zx_t62.drop 40).drop 40).drop 40).drop 40).take 40) = true := by decide +kernel
set_option maxRecDepth 1000000 in
theorem zx_by62_5 : zx_tbk prog_14_method_1_code ((((((zx_t62.drop 40).drop 40).drop 40).drop 40).drop 40).take 40) = true := by decide +kernel
end
section
/-! zx: the code of the methods -/
set_option maxRecDepth 1000000 in
theorem zx_by62_6 : zx_tbk prog_14_method_1_code (((((((zx_t62.drop 40).drop 40).drop 40).drop 40).drop 40).drop 40).take 40) = true := by decide +kernel
set_option maxRecDepth 1000000 in
theorem zx_by62_7 : zx_tbk prog_14_method_1_code (((((((zx_t62.drop 40).drop 40).drop 40).drop 40).drop 40).drop 40).drop 40) = true := by decide +kernel
theorem zx_by62 : zx_tbk prog_14_method_1_code zx_t62 = true := zx_tbk_cut 40 zx_by62_0 (zx_tbk_cut 40 zx_by62_1 (zx_tbk_cut 40 zx_by62_2 (zx_tbk_cut 40 zx_by62_3 (zx_tbk_cut 40 zx_by62_4 (zx_tbk_cut 40 zx_by62_5 (zx_tbk_cut 40 zx_by62_6 (zx_by62_7)))))))
set_option maxRecDepth 1000000 in
theorem zx_by63 : zx_tbk prog_14_method_2_code zx_t63 = true := by decide +kernel
set_option maxRecDepth 1000000 in
theorem zx_by64 : zx_tbk prog_14_method_4_code zx_t64 = true := by decide +kernel
set_option maxRecDepth 1000000 in
theorem zx_by65 : zx_tbk prog_14_method_5_code zx_t65 = true := by decide +kernel
set_option maxRecDepth 1000000 in
theorem zx_by66 : zx_tbk prog_14_method_6_code zx_t66 = true := by decide +kernel
set_option maxRecDepth 1000000 in
theorem zx_by67 : zx_tbk prog_14_method_9_code zx_t67 = true := by decide +kernel
set_option maxRecDepth 1000000 in
theorem zx_by68 : zx_tbk prog_14_method_8_code zx_t68 = true := by decide +kernel
set_option maxRecDepth 1000000 in
theorem zx_by69_0 : zx_tbk prog_14_method_10_code (zx_t69.take 40) = true := by decide +kernel
set_option maxRecDepth 1000000 in
theorem zx_by69_1 : zx_tbk prog_14_method_10_code ((zx_t69.drop 40).take 40) = true := by decide +kernel
set_option maxRecDepth 1000000 in
theorem zx_by69_2 : zx_tbk prog_14_method_10_code (((zx_t69.drop 40).drop 40).take 40) = true := by decide +kernel
set_option maxRecDepth 1000000 in
theorem zx_by69_3 : zx_tbk prog_14_method_10_code ((((zx_t69.drop 40).drop 40).drop 40).take 40) = true := by decide +kernel
set_option maxRecDepth 1000000 in
theorem zx_by69_4 : zx_tbk prog_14_method_10_code (((((zx_t69.drop 40).drop 40).drop 40).drop 40).take 40) = true := by decide +kernel
set_option maxRecDepth 1000000 in
theorem zx_by69_5 : zx_tbk prog_14_method_10_code (((((zx_t69.drop 40).drop 40).drop 40).drop 40).drop 40) = true := by decide +kernel
theorem zx_by69 : zx_tbk prog_14_method_10_code zx_t69 = true := zx_tbk_cut 40 zx_by69_0 (zx_tbk_cut 40 zx_by69_1 (zx_tbk_cut 40 zx_by69_2 (zx_tbk_cut 40 zx_by69_3 (zx_tbk_cut 40 zx_by69_4 (zx_by69_5)))))
set_option maxRecDepth 1000000 in
theorem zx_by70 : zx_tbk prog_14_method_7_code zx_t70 = true := by decide +kernel
set_option maxRecDepth 1000000 in
theorem zx_by71_0 : zx_tbk prog_14_method_13_code (zx_t71.take 40) = true := by decide +kernel
set_option maxRecDepth 1000000 in
theorem zx_by71_1 : zx_tbk prog_14_method_13_code (zx_t71.drop 40) = true := by decide +kernel
theorem zx_by71 : zx_tbk prog_14_method_13_code zx_t71 = true := zx_tbk_cut 40 zx_by71_0 (zx_by71_1)
set_option maxRecDepth 1000000 in
theorem zx_by72 : zx_tbk prog_14_method_18_code zx_t72 = true := by decide +kernel
set_option maxRecDepth 1000000 in
theorem zx_by73 : zx_tbk prog_14_method_14_code zx_t73 = true := by decide +kernel
set_option maxRecDepth 1000000 in
theorem zx_by74 : zx_tbk prog_14_method_15_code zx_t74 = true := by decide +kernel
set_option maxRecDepth 1000000 in
theorem zx_by75_0 : zx_tbk prog_14_method_27_code (zx_t75.take 40) = true := by decide +kernel
set_option maxRecDepth 1000000 in
theorem zx_by75_1 : zx_tbk prog_14_method_27_code ((zx_t75.drop 40).take 40) = true := by decide +kernel
set_option maxRecDepth 1000000 in
theorem zx_by75_2 : zx_tbk prog_14_method_27_code (((zx_t75.drop 40).drop 40).take 40) = true := by decide +kernel
set_option maxRecDepth 1000000 in
theorem zx_by75_3 : zx_tbk prog_14_method_27_code ((((zx_t75.drop 40).drop 40).drop 40).take 40) = true := by decide +kernel
set_option maxRecDepth 1000000 in
theorem zx_by75_4 : zx_tbk prog_14_method_27_code (((((zx_t75.drop 40).drop 40).drop 40).drop 40).take 40) = true := by decide +kernel
set_option maxRecDepth 1000000 in
theorem zx_by75_5 : zx_tbk prog_14_method_27_code (((((zx_t75.drop 40).drop 40).drop 40).drop 40).drop 40) = true := by decide +kernel
theorem zx_by75 : zx_tbk prog_14_method_27_code zx_t75 = true := zx_tbk_cut 40 zx_by75_0 (zx_tbk_cut 40 zx_by75_1 (zx_tbk_cut 40 zx_by75_2 (zx_tbk_cut 40 zx_by75_3 (zx_tbk_cut 40 zx_by75_4 (zx_by75_5)))))
set_option maxRecDepth 1000000 in
theorem zx_by76 : zx_tbk prog_14_method_12_code zx_t76 = true := by decide +kernel
set_option maxRecDepth 1000000 in
theorem zx_by77 : zx_tbk prog_14_method_28_code zx_t77 = true := by decide +kernel
set_option maxRecDepth 1000000 in
theorem zx_by78_0 : zx_tbk prog_14_method_42_code (zx_t78.take 40) = true := by decide +kernel
set_option maxRecDepth 1000000 in
theorem zx_by78_1 : zx_tbk prog_14_method_42_code (zx_t78.drop 40) = true := by decide +kernel
theorem zx_by78 : zx_tbk prog_14_method_42_code zx_t78 = true := zx_tbk_cut 40 zx_by78_0 (zx_by78_1)
set_option maxRecDepth 1000000 in
theorem zx_by79_0 : zx_tbk prog_14_method_45_code (zx_t79.take 40) = true := by decide +kernel
set_option maxRecDepth 1000000 in
theorem zx_by79_1 : zx_tbk prog_14_method_45_code (zx_t79.drop 40) = true := by decide +kernel
theorem zx_by79 : zx_tbk prog_14_method_45_code zx_t79 = true := zx_tbk_cut 40 zx_by79_0 (zx_by79_1)
set_option maxRecDepth 1000000 in
theorem zx_by80 : zx_tbk prog_14_method_48_code zx_t80 = true := by decide +kernel
set_option maxRecDepth 1000000 in
theorem zx_by81 : zx_tbk prog_14_method_46_code zx_t81 = true := by decide +kernel
set_option maxRecDepth 1000000 in
theorem zx_by82 : zx_tbk prog_14_method_49_code zx_t82 = true := by decide +kernel
set_option maxRecDepth 1000000 in
theorem zx_by83 : zx_tbk prog_14_method_62_code zx_t83 = true := by decide +kernel
set_option maxRecDepth 1000000 in
theorem zx_by84_0 : zx_tbk prog_14_method_50_code (zx_t84.take 40) = true := by decide +kernel
set_option maxRecDepth 1000000 in
theorem zx_by84_1 : zx_tbk prog_14_method_50_code ((zx_t84.drop 40).take 40) = true := by decide +kernel
set_option maxRecDepth 1000000 in
theorem zx_by84_2 : zx_tbk prog_14_method_50_code ((zx_t84.drop 40).drop 40) = true := by decide +kernel
theorem zx_by84 : zx_tbk prog_14_method_50_code zx_t84 = true := zx_tbk_cut 40 zx_by84_0 (zx_tbk_cut 40 zx_by84_1 (zx_by84_2))
set_option maxRecDepth 1000000 in
theorem zx_by85_0 : zx_tbk prog_14_method_51_code (zx_t85.take 40) = true := by decide +kernel
set_option maxRecDepth 1000000 in
theorem zx_by85_1 : zx_tbk prog_14_method_51_code (zx_t85.drop 40) = true := by decide +kernel
theorem zx_by85 : zx_tbk prog_14_method_51_code zx_t85 = true := zx_tbk_cut 40 zx_by85_0 (zx_by85_1)
set_option maxRecDepth 1000000 in
theorem zx_by86 : zx_tbk prog_14_method_63_code zx_t86 = true := by decide +kernel
set_option maxRecDepth 1000000 in
theorem zx_by87 : zx_tbk prog_14_method_64_code zx_t87 = true := by decide +kernel
set_option maxRecDepth 1000000 in
theorem zx_by88 : zx_tbk prog_14_method_69_code zx_t88 = true := by decide +kernel
set_option maxRecDepth 1000000 in
theorem zx_by89 : zx_tbk prog_14_method_70_code zx_t89 = true := by decide +kernel
set_option maxRecDepth 1000000 in
theorem zx_by90 : zx_tbk prog_14_method_77_code zx_t90 = true := by decide +kernel
set_option maxRecDepth 1000000 in
theorem zx_by91 : zx_tbk prog_14_method_74_code zx_t91 = true := by decide +kernel
set_option maxRecDepth 1000000 in
theorem zx_by92 : zx_tbk prog_14_method_76_code zx_t92 = true := by decide +kernel
set_option maxRecDepth 1000000 in
theorem zx_by93 : zx_tbk prog_14_method_71_code zx_t93 = true := by decide +kernel
set_option maxRecDepth 1000000 in
theorem zx_by94_0 : zx_tbk prog_14_method_75_code (zx_t94.take 40) = true := by decide +kernel
set_option maxRecDepth 1000000 in
theorem zx_by94_1 : zx_tbk prog_14_method_75_code ((zx_t94.drop 40).take 40) = true := by decide +kernel
set_option maxRecDepth 1000000 in
theorem zx_by94_2 : zx_tbk prog_14_method_75_code ((zx_t94.drop 40).drop 40) = true := by decide +kernel
theorem zx_by94 : zx_tbk prog_14_method_75_code zx_t94 = true := zx_tbk_cut 40 zx_by94_0 (zx_tbk_cut 40 zx_by94_1 (zx_by94_2))
set_option maxRecDepth 1000000 in
theorem zx_by95 : zx_tbk prog_14_method_73_code zx_t95 = true := by decide +kernel
set_option maxRecDepth 1000000 in
theorem zx_by96 : zx_tbk prog_14_method_72_code zx_t96 = true := by decide +kernel
set_option maxRecDepth 1000000 in
theorem zx_by97 : zx_tbk prog_14_method_93_code zx_t97 = true := by decide +kernel
set_option maxRecDepth 1000000 in
theorem zx_by98_0 : zx_tbk prog_14_method_91_code (zx_t98.take 40) = true := by decide +kernel
set_option maxRecDepth 1000000 in
theorem zx_by98_1 : zx_tbk prog_14_method_91_code ((zx_t98.drop 40).take 40) = true := by decide +kernel
set_option maxRecDepth 1000000 in
theorem zx_by98_2 : zx_tbk prog_14_method_91_code ((zx_t98.drop 40).drop 40) = true := by decide +kernel
theorem zx_by98 : zx_tbk prog_14_method_91_code zx_t98 = true := zx_tbk_cut 40 zx_by98_0 (zx_tbk_cut 40 zx_by98_1 (zx_by98_2))
set_option maxRecDepth 1000000 in
theorem zx_by99_0 : zx_tbk prog_14_method_78_code (zx_t99.take 40) = true := by decide +kernel
set_option maxRecDepth 1000000 in
theorem zx_by99_1 : zx_tbk prog_14_method_78_code ((zx_t99.drop 40).take 40) = true := by decide +kernel
set_option maxRecDepth 1000000 in
theorem zx_by99_2 : zx_tbk prog_14_method_78_code (((zx_t99.drop 40).drop 40).take 40) = true := by decide +kernel
set_option maxRecDepth 1000000 in
theorem zx_by99_3 : zx_tbk prog_14_method_78_code (((zx_t99.drop 40).drop 40).drop 40) = true := by decide +kernel
theorem zx_by99 : zx_tbk prog_14_method_78_code zx_t99 = true := zx_tbk_cut 40 zx_by99_0 (zx_tbk_cut 40 zx_by99_1 (zx_tbk_cut 40 zx_by99_2 (zx_by99_3)))
set_option maxRecDepth 1000000 in
theorem zx_by100 : zx_tbk prog_14_method_94_code zx_t100 = true := by decide +kernel
set_option maxRecDepth 1000000 in
theorem zx_by101 : zx_tbk prog_14_method_3_code zx_t101 = true := by decide +kernel
set_option maxRecDepth 1000000 in
theorem zx_by102 : zx_tbk prog_14_method_100_code zx_t102 = true := by decide +kernel
set_option maxRecDepth 1000000 in
theorem zx_by103 : zx_tbk prog_14_method_101_code zx_t103 = true := by decide +kernel
set_option maxRecDepth 1000000 in
theorem zx_by104 : zx_tbk prog_14_method_102_code zx_t104 = true := by decide +kernel
set_option maxRecDepth 1000000 in
theorem zx_by105_0 : zx_tbk prog_14_method_105_code (zx_t105.take 40) = true := by decide +kernel
set_option maxRecDepth 1000000 in
theorem zx_by105_1 : zx_tbk prog_14_method_105_code ((zx_t105.drop 40).take 40) = true := by decide +kernel
set_option maxRecDepth 1000000 in
theorem zx_by105_2 : zx_tbk prog_14_method_105_code (((zx_t105.drop 40).drop 40).take 40) = true := by decide +kernel
set_option maxRecDepth 1000000 in
theorem zx_by105_3 : zx_tbk prog_14_method_105_code ((((zx_t105.drop 40).drop 40).drop 40).take 40) = true := by decide +kernel
set_option maxRecDepth 1000000 in
theorem zx_by105_4 : zx_tbk prog_14_method_105_code (((((zx_t105.drop 40).drop 40).drop 40).drop 40).take 40) = true := by decide +kernel
set_option maxRecDepth 1000000 in
theorem zx_by105_5 : zx_tbk prog_14_method_105_code ((((((zx_t105.drop 40).drop 40).drop 40).drop 40).drop 40).take 40) = true := by decide +kernel
set_option maxRecDepth 1000000 in
theorem zx_by105_6 : zx_tbk prog_14_method_105_code ((((((zx_t105.drop 40).drop 40).drop 40).drop 40).drop 40).drop 40) = true := by decide +kernel
theorem zx_by105 : zx_tbk prog_14_method_105_code zx_t105 = true := zx_tbk_cut 40 zx_by105_0 (zx_tbk_cut 40 zx_by105_1 (zx_tbk_cut 40 zx_by105_2 (zx_tbk_cut 40 zx_by105_3 (zx_tbk_cut 40 zx_by105_4 (zx_tbk_cut 40 zx_by105_5 (zx_by105_6))))))
set_option maxRecDepth 1000000 in
theorem zx_by106 : zx_tbk prog_14_method_106_code zx_t106 = true := by decide +kernel
set_option maxRecDepth 1000000 in
theorem zx_by107_0 : zx_tbk prog_14_method_107_code (zx_t107.take 40) = true := by decide +kernel
set_option maxRecDepth 1000000 in
theorem zx_by107_1 : zx_tbk prog_14_method_107_code ((zx_t107.drop 40).take 40) = true := by decide +kernel
set_option maxRecDepth 1000000 in
theorem zx_by107_2 : zx_tbk prog_14_method_107_code (((zx_t107.drop 40).drop 40).take 40) = true := by decide +kernel
set_option maxRecDepth 1000000 in
theorem zx_by107_3 : zx_tbk prog_14_method_107_code (((zx_t107.drop 40).drop 40).drop 40) = true := by decide +kernel
theorem zx_by107 : zx_tbk prog_14_method_107_code zx_t107 = true := zx_tbk_cut 40 zx_by107_0 (zx_tbk_cut 40 zx_by107_1 (zx_tbk_cut 40 zx_by107_2 (zx_by107_3)))
set_option maxRecDepth 1000000 in
theorem zx_by108 : zx_tbk prog_14_method_108_code zx_t108 = true := by decide +kernel
end
section
/-! zx: the code of the methods -/
set_option maxRecDepth 1000000 in
theorem zx_bylaw_0 : zx_tbk code (zx_tlaw.take 40) = true := by decide +kernel
set_option maxRecDepth 1000000 in
theorem zx_bylaw_1 : zx_tbk code ((zx_tlaw.drop 40).take 40) = true := by decide +kernel
set_option maxRecDepth 1000000 in
theorem zx_bylaw_2 : zx_tbk code (((zx_tlaw.drop 40).drop 40).take 40) = true := by decide +kernel
set_option maxRecDepth 1000000 in
theorem zx_bylaw_3 : zx_tbk code ((((zx_tlaw.drop 40).drop 40).drop 40).take 40) = true := by decide +kernel
set_option maxRecDepth 1000000 in
theorem zx_bylaw_4 : zx_tbk code (((((zx_tlaw.drop 40).drop 40).drop 40).drop 40).take 40) = true := by decide +kernel
set_option maxRecDepth 1000000 in
theorem zx_bylaw_5 : zx_tbk code ((((((zx_tlaw.drop 40).drop 40).drop 40).drop 40).drop 40).take 40) = true := by decide +kernel
set_option maxRecDepth 1000000 in
theorem zx_bylaw_6 : zx_tbk code (((((((zx_tlaw.drop 40).drop 40).drop 40).drop 40).drop 40).drop 40).take 40) = true := by decide +kernel
set_option maxRecDepth 1000000 in
theorem zx_bylaw_7 : zx_tbk code ((((((((zx_tlaw.drop 40).drop 40).drop 40).drop 40).drop 40).drop 40).drop 40).take 40) = true := by decide +kernel
end
section
/-! zx: the code of the methods -/
set_option maxRecDepth 1000000 in
theorem zx_bylaw_8 : zx_tbk code (((((((((zx_tlaw.drop 40).drop 40).drop 40).drop 40).drop 40).drop 40).drop 40).drop 40).take 40) = true := by decide +kernel
set_option maxRecDepth 1000000 in
theorem zx_bylaw_9 : zx_tbk code ((((((((((zx_tlaw.drop 40).drop 40).drop 40).drop 40).drop 40).drop 40).drop 40).drop 40).drop 40).take 40) = true := by decide +kernel
set_option maxRecDepth 1000000 in
theorem zx_bylaw_10 : zx_tbk code (((((((((((zx_tlaw.drop 40).drop 40).drop 40).drop 40).drop 40).drop 40).drop 40).drop 40).drop 40).drop 40).take 40) = true := by decide +kernel
set_option maxRecDepth 1000000 in
theorem zx_bylaw_11 : zx_tbk code ((((((((((((zx_tlaw.drop 40).drop 40).drop 40).drop 40).drop 40).drop 40).drop 40).drop 40).drop 40).drop 40).drop 40).take 40) = true := by decide +kernel
set_option maxRecDepth 1000000 in
theorem zx_bylaw_12 : zx_tbk code (((((((((((((zx_tlaw.drop 40).drop 40).drop 40).drop 40).drop 40).drop 40).drop 40).drop 40).drop 40).drop 40).drop 40).drop 40).take 40) = true := by decide +kernel
set_option maxRecDepth 1000000 in
theorem zx_bylaw_13 : zx_tbk code ((((((((((((((zx_tlaw.drop 40).drop 40).drop 40).drop 40).drop 40).drop 40).drop 40).drop 40).drop 40).drop 40).drop 40).drop 40).drop 40).take 40) = true := by decide +kernel
set_option maxRecDepth 1000000 in
theorem zx_bylaw_14 : zx_tbk code (((((((((((((((zx_tlaw.drop 40).drop 40).drop 40).drop 40).drop 40).drop 40).drop 40).drop 40).drop 40).drop 40).drop 40).drop 40).drop 40).drop 40).take 40) = true := by decide +kernel
set_option maxRecDepth 1000000 in
theorem zx_bylaw_15 : zx_tbk code ((((((((((((((((zx_tlaw.drop 40).drop 40).drop 40).drop 40).drop 40).drop 40).drop 40).drop 40).drop 40).drop 40).drop 40).drop 40).drop 40).drop 40).drop 40).take 40) = true := by decide +kernel
end
section
/-! zx: the code of the methods -/
set_option maxRecDepth 1000000 in
theorem zx_bylaw_16 : zx_tbk code (((((((((((((((((zx_tlaw.drop 40).drop 40).drop 40).drop 40).drop 40).drop 40).drop 40).drop 40).drop 40).drop 40).drop 40).drop 40).drop 40).drop 40).drop 40).drop 40).take 40) = true := by decide +kernel
set_option maxRecDepth 1000000 in
theorem zx_bylaw_17 : zx_tbk code ((((((((((((((((((zx_tlaw.drop 40).drop 40).drop 40).drop 40).drop 40).drop 40).drop 40).drop 40).drop 40).drop 40).drop 40).drop 40).drop 40).drop 40).drop 40).drop 40).drop 40).take 40) = true := by decide +kernel
set_option maxRecDepth 1000000 in
theorem zx_bylaw_18 : zx_tbk code (((((((((((((((((((zx_tlaw.drop 40).drop 40).drop 40).drop 40).drop 40).drop 40).drop 40).drop 40).drop 40).drop 40).drop 40).drop 40).drop 40).drop 40).drop 40).drop 40).drop 40).drop 40).take 40) = true := by decide +kernel
set_option maxRecDepth 1000000 in
theorem zx_bylaw_19 : zx_tbk code ((((((((((((((((((((zx_tlaw.drop 40).drop 40).drop 40).drop 40).drop 40).drop 40).drop 40).drop 40).drop 40).drop 40).drop 40).drop 40).drop 40).drop 40).drop 40).drop 40).drop 40).drop 40).drop 40).take 40) = true := by decide +kernel
set_option maxRecDepth 1000000 in
theorem zx_bylaw_20 : zx_tbk code (((((((((((((((((((((zx_tlaw.drop 40).drop 40).drop 40).drop 40).drop 40).drop 40).drop 40).drop 40).drop 40).drop 40).drop 40).drop 40).drop 40).drop 40).drop 40).drop 40).drop 40).drop 40).drop 40).drop 40).take 40) = true := by decide +kernel
set_option maxRecDepth 1000000 in
theorem zx_bylaw_21 : zx_tbk code ((((((((((((((((((((((zx_tlaw.drop 40).drop 40).drop 40).drop 40).drop 40).drop 40).drop 40).drop 40).drop 40).drop 40).drop 40).drop 40).drop 40).drop 40).drop 40).drop 40).drop 40).drop 40).drop 40).drop 40).drop 40).take 40) = true := by decide +kernel
set_option maxRecDepth 1000000 in
theorem zx_bylaw_22 : zx_tbk code (((((((((((((((((((((((zx_tlaw.drop 40).drop 40).drop 40).drop 40).drop 40).drop 40).drop 40).drop 40).drop 40).drop 40).drop 40).drop 40).drop 40).drop 40).drop 40).drop 40).drop 40).drop 40).drop 40).drop 40).drop 40).drop 40).take 40) = true := by decide +kernel
set_option maxRecDepth 1000000 in
theorem zx_bylaw_23 : zx_tbk code ((((((((((((((((((((((((zx_tlaw.drop 40).drop 40).drop 40).drop 40).drop 40).drop 40).drop 40).drop 40).drop 40).drop 40).drop 40).drop 40).drop 40).drop 40).drop 40).drop 40).drop 40).drop 40).drop 40).drop 40).drop 40).drop 40).drop 40).take 40) = true := by decide +kernel
set_option maxRecDepth 1000000 in
theorem zx_bylaw_24 : zx_tbk code ((((((((((((((((((((((((zx_tlaw.drop 40).drop 40).drop 40).drop 40).drop 40).drop 40).drop 40).drop 40).drop 40).drop 40).drop 40).drop 40).drop 40).drop 40).drop 40).drop 40).drop 40).drop 40).drop 40).drop 40).drop 40).drop 40).drop 40).drop 40) = true := by decide +kernel
theorem zx_bylaw : zx_tbk code zx_tlaw = true := zx_tbk_cut 40 zx_bylaw_0 (zx_tbk_cut 40 zx_bylaw_1 (zx_tbk_cut 40 zx_bylaw_2 (zx_tbk_cut 40 zx_bylaw_3 (zx_tbk_cut 40 zx_bylaw_4 (zx_tbk_cut 40 zx_bylaw_5 (zx_tbk_cut 40 zx_bylaw_6 (zx_tbk_cut 40 zx_bylaw_7 (zx_tbk_cut 40 zx_bylaw_8 (zx_tbk_cut 40 zx_bylaw_9 (zx_tbk_cut 40 zx_bylaw_10 (zx_tbk_cut 40 zx_bylaw_11 (zx_tbk_cut 40 zx_bylaw_12 (zx_tbk_cut 40 zx_bylaw_13 (zx_tbk_cut 40 zx_bylaw_14 (zx_tbk_cut 40 zx_bylaw_15 (zx_tbk_cut 40 zx_bylaw_16 (zx_tbk_cut 40 zx_bylaw_17 (zx_tbk_cut 40 zx_bylaw_18 (zx_tbk_cut 40 zx_bylaw_19 (zx_tbk_cut 40 zx_bylaw_20 (zx_tbk_cut 40 zx_bylaw_21 (zx_tbk_cut 40 zx_bylaw_22 (zx_tbk_cut 40 zx_bylaw_23 (zx_bylaw_24))))))))))))))))))))))))
end
section
/-! zx: the classes -/
set_option maxRecDepth 1000000 in
theorem zx_kW0 : zx_all2 zx_w zx_pW0 (u_ws "OperaHouse$Calls" TX0 8) = true := by decide +kernel
theorem zx_kT0 : (zx_dt[0]?.getD []).length = 8 ∧ ∀ j, j < 8 → (zx_dt[0]?.getD [])[j]? = some (zx_tag (tyX0 j)) ∧ zx_tag (tyX0 j) ≠ 9 := by decide +kernel
set_option maxRecDepth 1000000 in
theorem zx_kW1 : zx_all2 zx_w zx_pW1 (u_ws "OperaHouse$Contract" TX1 9) = true := by decide +kernel
theorem zx_kT1 : (zx_dt[1]?.getD []).length = 9 ∧ ∀ j, j < 9 → (zx_dt[1]?.getD [])[j]? = some (zx_tag (tyX1 j)) ∧ zx_tag (tyX1 j) ≠ 9 := by decide +kernel
set_option maxRecDepth 1000000 in
theorem zx_kW2 : zx_all2 zx_w zx_pW2 (u_ws "OperaHouse$House" TX2 12) = true := by decide +kernel
theorem zx_kT2 : (zx_dt[2]?.getD []).length = 12 ∧ ∀ j, j < 12 → (zx_dt[2]?.getD [])[j]? = some (zx_tag (tyX2 j)) ∧ zx_tag (tyX2 j) ≠ 9 := by decide +kernel
set_option maxRecDepth 1000000 in
theorem zx_kW3 : zx_all2 zx_w zx_pW3 (u_ws "OperaHouse$Judge" TX3 6) = true := by decide +kernel
theorem zx_kT3 : (zx_dt[3]?.getD []).length = 6 ∧ ∀ j, j < 6 → (zx_dt[3]?.getD [])[j]? = some (zx_tag (tyX3 j)) ∧ zx_tag (tyX3 j) ≠ 9 := by decide +kernel
set_option maxRecDepth 1000000 in
theorem zx_kW4 : zx_all2 zx_w zx_pW4 (u_ws "OperaHouse$Layer" TX4 13) = true := by decide +kernel
theorem zx_kT4 : (zx_dt[4]?.getD []).length = 13 ∧ ∀ j, j < 13 → (zx_dt[4]?.getD [])[j]? = some (zx_tag (tyX4 j)) ∧ zx_tag (tyX4 j) ≠ 9 := by decide +kernel
set_option maxRecDepth 1000000 in
theorem zx_kW5 : zx_all2 zx_w zx_pW5 (u_ws "OperaHouse$Ledger" TX5 19) = true := by decide +kernel
theorem zx_kT5 : (zx_dt[5]?.getD []).length = 19 ∧ ∀ j, j < 19 → (zx_dt[5]?.getD [])[j]? = some (zx_tag (tyX5 j)) ∧ zx_tag (tyX5 j) ≠ 9 := by decide +kernel
set_option maxRecDepth 1000000 in
theorem zx_kW6 : zx_all2 zx_w zx_pW6 (u_ws "OperaHouse$Opera" TX6 10) = true := by decide +kernel
theorem zx_kT6 : (zx_dt[6]?.getD []).length = 10 ∧ ∀ j, j < 10 → (zx_dt[6]?.getD [])[j]? = some (zx_tag (tyX6 j)) ∧ zx_tag (tyX6 j) ≠ 9 := by decide +kernel
set_option maxRecDepth 1000000 in
theorem zx_kW7 : zx_all2 zx_w zx_pW7 (u_ws "OperaHouse$Reader" TX7 9) = true := by decide +kernel
theorem zx_kT7 : (zx_dt[7]?.getD []).length = 9 ∧ ∀ j, j < 9 → (zx_dt[7]?.getD [])[j]? = some (zx_tag (tyX7 j)) ∧ zx_tag (tyX7 j) ≠ 9 := by decide +kernel
set_option maxRecDepth 1000000 in
theorem zx_kW8 : zx_all2 zx_w zx_pW8 (u_ws "OperaHouse$Wagons" TX9 3) = true := by decide +kernel
theorem zx_kT8 : (zx_dt[8]?.getD []).length = 3 ∧ ∀ j, j < 3 → (zx_dt[8]?.getD [])[j]? = some (zx_tag (tyX9 j)) ∧ zx_tag (tyX9 j) ≠ 9 := by decide +kernel
set_option maxRecDepth 1000000 in
theorem zx_kW9 : zx_all2 zx_w zx_pW9 (u_ws "OperaHouse$Walk" TX10 9) = true := by decide +kernel
theorem zx_kT9 : (zx_dt[9]?.getD []).length = 9 ∧ ∀ j, j < 9 → (zx_dt[9]?.getD [])[j]? = some (zx_tag (tyX10 j)) ∧ zx_tag (tyX10 j) ≠ 9 := by decide +kernel
set_option maxRecDepth 1000000 in
theorem zx_kW10 : zx_all2 zx_w zx_pW10 (u_ws "OperaHouse" TX11 14) = true := by decide +kernel
theorem zx_kT10 : (zx_dt[10]?.getD []).length = 14 ∧ ∀ j, j < 14 → (zx_dt[10]?.getD [])[j]? = some (zx_tag (tyX11 j)) ∧ zx_tag (tyX11 j) ≠ 9 := by decide +kernel
set_option maxRecDepth 1000000 in
theorem zx_kW11 : zx_all2 zx_w zx_pW11 (u_ws "OperaHouseModel" TX12 101) = true := by decide +kernel
theorem zx_kT11 : (zx_dt[11]?.getD []).length = 101 ∧ ∀ j, j < 101 → (zx_dt[11]?.getD [])[j]? = some (zx_tag (tyX12 j)) ∧ zx_tag (tyX12 j) ≠ 9 := by decide +kernel
theorem zx_CKt : zx_CK vwCl zx_Ts zx_dt := by
  intro ci C T N hc
  match ci, hc with
  | 0, hc => cases hc; exact ⟨fun w hw => by obtain ⟨i, hi⟩ := zx_all2_ok zx_kW0 hw; exact zx_w_ok hi, tyX0, tyX0_ok, nmX0, fun d hd => by cases hd; exact zx_kT0⟩
  | 1, hc => cases hc; exact ⟨fun w hw => by obtain ⟨i, hi⟩ := zx_all2_ok zx_kW1 hw; exact zx_w_ok hi, tyX1, tyX1_ok, nmX1, fun d hd => by cases hd; exact zx_kT1⟩
  | 2, hc => cases hc; exact ⟨fun w hw => by obtain ⟨i, hi⟩ := zx_all2_ok zx_kW2 hw; exact zx_w_ok hi, tyX2, tyX2_ok, nmX2, fun d hd => by cases hd; exact zx_kT2⟩
  | 3, hc => cases hc; exact ⟨fun w hw => by obtain ⟨i, hi⟩ := zx_all2_ok zx_kW3 hw; exact zx_w_ok hi, tyX3, tyX3_ok, nmX3, fun d hd => by cases hd; exact zx_kT3⟩
  | 4, hc => cases hc; exact ⟨fun w hw => by obtain ⟨i, hi⟩ := zx_all2_ok zx_kW4 hw; exact zx_w_ok hi, tyX4, tyX4_ok, nmX4, fun d hd => by cases hd; exact zx_kT4⟩
  | 5, hc => cases hc; exact ⟨fun w hw => by obtain ⟨i, hi⟩ := zx_all2_ok zx_kW5 hw; exact zx_w_ok hi, tyX5, tyX5_ok, nmX5, fun d hd => by cases hd; exact zx_kT5⟩
  | 6, hc => cases hc; exact ⟨fun w hw => by obtain ⟨i, hi⟩ := zx_all2_ok zx_kW6 hw; exact zx_w_ok hi, tyX6, tyX6_ok, nmX6, fun d hd => by cases hd; exact zx_kT6⟩
  | 7, hc => cases hc; exact ⟨fun w hw => by obtain ⟨i, hi⟩ := zx_all2_ok zx_kW7 hw; exact zx_w_ok hi, tyX7, tyX7_ok, nmX7, fun d hd => by cases hd; exact zx_kT7⟩
  | 8, hc => cases hc; exact ⟨fun w hw => by obtain ⟨i, hi⟩ := zx_all2_ok zx_kW8 hw; exact zx_w_ok hi, tyX9, tyX9_ok, nmX9, fun d hd => by cases hd; exact zx_kT8⟩
  | 9, hc => cases hc; exact ⟨fun w hw => by obtain ⟨i, hi⟩ := zx_all2_ok zx_kW9 hw; exact zx_w_ok hi, tyX10, tyX10_ok, nmX10, fun d hd => by cases hd; exact zx_kT9⟩
  | 10, hc => cases hc; exact ⟨fun w hw => by obtain ⟨i, hi⟩ := zx_all2_ok zx_kW10 hw; exact zx_w_ok hi, tyX11, tyX11_ok, nmX11, fun d hd => by cases hd; exact zx_kT10⟩
  | 11, hc => cases hc; exact ⟨fun w hw => by obtain ⟨i, hi⟩ := zx_all2_ok zx_kW11 hw; exact zx_w_ok hi, tyX12, tyX12_ok, nmX12, fun d hd => by cases hd; exact zx_kT11⟩
  | n + 12, hc => simp [vwCl] at hc
end
section
/-! zx: all methods -/
theorem zx_PKt : zx_PK vwCl zx_Ts zx_nw zx_sts zx_aos zx_PRt zx_rmt zx_Pt := by
  intro j md y cc maxL ret rm h1 h2 h3
  match j, h1, h2, h3 with
  | 0, h1, h2, h3 => cases h1; cases h2; cases h3; exact ⟨rfl, rfl, rfl, rfl, fun _ => rfl, zx_MK_of zx_kFic0 zx_kLc0, zx_LK_of zx_codes zx_kKc0, zx_TB_of zx_by0, by first | exact rfl | exact ⟨rfl, by decide, by decide⟩, _, _, rfl, rfl⟩
  | 1, h1, h2, h3 => cases h1; cases h2; cases h3; exact ⟨rfl, rfl, rfl, rfl, fun _ => rfl, zx_MK_of zx_kFic1 zx_kLc1, zx_LK_of zx_codes zx_kKc1, zx_TB_of zx_by1, by first | exact rfl | exact ⟨rfl, by decide, by decide⟩, _, _, rfl, rfl⟩
  | 2, h1, h2, h3 => cases h1; cases h2; cases h3; exact ⟨rfl, rfl, rfl, rfl, fun _ => rfl, zx_MK_of zx_kFic2 zx_kLc2, zx_LK_of zx_codes zx_kKc2, zx_TB_of zx_by2, by first | exact rfl | exact ⟨rfl, by decide, by decide⟩, _, _, rfl, rfl⟩
  | 3, h1, h2, h3 => cases h1; cases h2; cases h3; exact ⟨rfl, rfl, rfl, rfl, (fun q => nomatch q), zx_MK_of zx_kFc2 zx_kLc2, zx_LK_of zx_codes zx_kKc2, zx_TB_of zx_by3, by first | exact rfl | exact ⟨rfl, by decide, by decide⟩, _, _, rfl, rfl⟩
  | 4, h1, h2, h3 => cases h1; cases h2; cases h3; exact ⟨rfl, rfl, rfl, rfl, fun _ => rfl, zx_MK_of zx_kFic3 zx_kLc3, zx_LK_of zx_codes zx_kKc3, zx_TB_of zx_by4, by first | exact rfl | exact ⟨rfl, by decide, by decide⟩, _, _, rfl, rfl⟩
  | 5, h1, h2, h3 => cases h1; cases h2; cases h3; exact ⟨rfl, rfl, rfl, rfl, fun _ => rfl, zx_MK_of zx_kFic4 zx_kLc4, zx_LK_of zx_codes zx_kKc4, zx_TB_of zx_by5, by first | exact rfl | exact ⟨rfl, by decide, by decide⟩, _, _, rfl, rfl⟩
  | 6, h1, h2, h3 => cases h1; cases h2; cases h3; exact ⟨rfl, rfl, rfl, rfl, fun _ => rfl, zx_MK_of zx_kFic5 zx_kLc5, zx_LK_of zx_codes zx_kKc5, zx_TB_of zx_by6, by first | exact rfl | exact ⟨rfl, by decide, by decide⟩, _, _, rfl, rfl⟩
  | 7, h1, h2, h3 => cases h1; cases h2; cases h3; exact ⟨rfl, rfl, rfl, rfl, fun _ => rfl, zx_MK_of zx_kFic6 zx_kLc6, zx_LK_of zx_codes zx_kKc6, zx_TB_of zx_by7, by first | exact rfl | exact ⟨rfl, by decide, by decide⟩, _, _, rfl, rfl⟩
  | 8, h1, h2, h3 => cases h1; cases h2; cases h3; exact ⟨rfl, rfl, rfl, rfl, fun _ => rfl, zx_MK_of zx_kFic7 zx_kLc7, zx_LK_of zx_codes zx_kKc7, zx_TB_of zx_by8, by first | exact rfl | exact ⟨rfl, by decide, by decide⟩, _, _, rfl, rfl⟩
  | 9, h1, h2, h3 => cases h1; cases h2; cases h3; exact ⟨rfl, rfl, rfl, rfl, fun _ => rfl, zx_MK_of zx_kFic8 zx_kLc8, zx_LK_of zx_codes zx_kKc8, zx_TB_of zx_by9, by first | exact rfl | exact ⟨rfl, by decide, by decide⟩, _, _, rfl, rfl⟩
  | 10, h1, h2, h3 => cases h1; cases h2; cases h3; exact ⟨rfl, rfl, rfl, rfl, fun _ => rfl, zx_MK_of zx_kFic9 zx_kLc9, zx_LK_of zx_codes zx_kKc9, zx_TB_of zx_by10, by first | exact rfl | exact ⟨rfl, by decide, by decide⟩, _, _, rfl, rfl⟩
  | 11, h1, h2, h3 => cases h1; cases h2; cases h3; exact ⟨rfl, rfl, rfl, rfl, fun _ => rfl, zx_MK_of zx_kFic10 zx_kLc10, zx_LK_of zx_codes zx_kKc10, zx_TB_of zx_by11, by first | exact rfl | exact ⟨rfl, by decide, by decide⟩, _, _, rfl, rfl⟩
  | 12, h1, h2, h3 => cases h1; cases h2; cases h3; exact ⟨rfl, rfl, rfl, rfl, (fun q => nomatch q), zx_MK_of zx_kFc0 zx_kLc0, zx_LK_of zx_codes zx_kKc0, zx_TB_of zx_by12, by first | exact rfl | exact ⟨rfl, by decide, by decide⟩, _, _, rfl, rfl⟩
  | 13, h1, h2, h3 => cases h1; cases h2; cases h3; exact ⟨rfl, rfl, rfl, rfl, (fun q => nomatch q), zx_MK_of zx_kFc0 zx_kLc0, zx_LK_of zx_codes zx_kKc0, zx_TB_of zx_by13, by first | exact rfl | exact ⟨rfl, by decide, by decide⟩, _, _, rfl, rfl⟩
  | 14, h1, h2, h3 => cases h1; cases h2; cases h3; exact ⟨rfl, rfl, rfl, rfl, (fun q => nomatch q), zx_MK_of zx_kFc0 zx_kLc0, zx_LK_of zx_codes zx_kKc0, zx_TB_of zx_by14, by first | exact rfl | exact ⟨rfl, by decide, by decide⟩, _, _, rfl, rfl⟩
  | 15, h1, h2, h3 => cases h1; cases h2; cases h3; exact ⟨rfl, rfl, rfl, rfl, (fun q => nomatch q), zx_MK_of zx_kFc0 zx_kLc0, zx_LK_of zx_codes zx_kKc0, zx_TB_of zx_by15, by first | exact rfl | exact ⟨rfl, by decide, by decide⟩, _, _, rfl, rfl⟩
  | 16, h1, h2, h3 => cases h1; cases h2; cases h3; exact ⟨rfl, rfl, rfl, rfl, (fun q => nomatch q), zx_MK_of zx_kFc0 zx_kLc0, zx_LK_of zx_codes zx_kKc0, zx_TB_of zx_by16, by first | exact rfl | exact ⟨rfl, by decide, by decide⟩, _, _, rfl, rfl⟩
  | 17, h1, h2, h3 => cases h1; cases h2; cases h3; exact ⟨rfl, rfl, rfl, rfl, (fun q => nomatch q), zx_MK_of zx_kFc0 zx_kLc0, zx_LK_of zx_codes zx_kKc0, zx_TB_of zx_by17, by first | exact rfl | exact ⟨rfl, by decide, by decide⟩, _, _, rfl, rfl⟩
  | 18, h1, h2, h3 => cases h1; cases h2; cases h3; exact ⟨rfl, rfl, rfl, rfl, (fun q => nomatch q), zx_MK_of zx_kFc0 zx_kLc0, zx_LK_of zx_codes zx_kKc0, zx_TB_of zx_by18, by first | exact rfl | exact ⟨rfl, by decide, by decide⟩, _, _, rfl, rfl⟩
  | 19, h1, h2, h3 => cases h1; cases h2; cases h3; exact ⟨rfl, rfl, rfl, rfl, (fun q => nomatch q), zx_MK_of zx_kFc3 zx_kLc3, zx_LK_of zx_codes zx_kKc3, zx_TB_of zx_by19, by first | exact rfl | exact ⟨rfl, by decide, by decide⟩, _, _, rfl, rfl⟩
  | 20, h1, h2, h3 => cases h1; cases h2; cases h3; exact ⟨rfl, rfl, rfl, rfl, (fun q => nomatch q), zx_MK_of zx_kFc0 zx_kLc0, zx_LK_of zx_codes zx_kKc0, zx_TB_of zx_by20, by first | exact rfl | exact ⟨rfl, by decide, by decide⟩, _, _, rfl, rfl⟩
  | 21, h1, h2, h3 => cases h1; cases h2; cases h3; exact ⟨rfl, rfl, rfl, rfl, (fun q => nomatch q), zx_MK_of zx_kFc0 zx_kLc0, zx_LK_of zx_codes zx_kKc0, zx_TB_of zx_by21, by first | exact rfl | exact ⟨rfl, by decide, by decide⟩, _, _, rfl, rfl⟩
  | 22, h1, h2, h3 => cases h1; cases h2; cases h3; exact ⟨rfl, rfl, rfl, rfl, (fun q => nomatch q), zx_MK_of zx_kFc0 zx_kLc0, zx_LK_of zx_codes zx_kKc0, zx_TB_of zx_by22, by first | exact rfl | exact ⟨rfl, by decide, by decide⟩, _, _, rfl, rfl⟩
  | 23, h1, h2, h3 => cases h1; cases h2; cases h3; exact ⟨rfl, rfl, rfl, rfl, (fun q => nomatch q), zx_MK_of zx_kFc0 zx_kLc0, zx_LK_of zx_codes zx_kKc0, zx_TB_of zx_by23, by first | exact rfl | exact ⟨rfl, by decide, by decide⟩, _, _, rfl, rfl⟩
  | 24, h1, h2, h3 => cases h1; cases h2; cases h3; exact ⟨rfl, rfl, rfl, rfl, (fun q => nomatch q), zx_MK_of zx_kFc1 zx_kLc1, zx_LK_of zx_codes zx_kKc1, zx_TB_of zx_by24, by first | exact rfl | exact ⟨rfl, by decide, by decide⟩, _, _, rfl, rfl⟩
  | 25, h1, h2, h3 => cases h1; cases h2; cases h3; exact ⟨rfl, rfl, rfl, rfl, (fun q => nomatch q), zx_MK_of zx_kFc0 zx_kLc0, zx_LK_of zx_codes zx_kKc0, zx_TB_of zx_by25, by first | exact rfl | exact ⟨rfl, by decide, by decide⟩, _, _, rfl, rfl⟩
  | 26, h1, h2, h3 => cases h1; cases h2; cases h3; exact ⟨rfl, rfl, rfl, rfl, (fun q => nomatch q), zx_MK_of zx_kFc0 zx_kLc0, zx_LK_of zx_codes zx_kKc0, zx_TB_of zx_by26, by first | exact rfl | exact ⟨rfl, by decide, by decide⟩, _, _, rfl, rfl⟩
  | 27, h1, h2, h3 => cases h1; cases h2; cases h3; exact ⟨rfl, rfl, rfl, rfl, (fun q => nomatch q), zx_MK_of zx_kFc1 zx_kLc1, zx_LK_of zx_codes zx_kKc1, zx_TB_of zx_by27, by first | exact rfl | exact ⟨rfl, by decide, by decide⟩, _, _, rfl, rfl⟩
  | 28, h1, h2, h3 => cases h1; cases h2; cases h3; exact ⟨rfl, rfl, rfl, rfl, (fun q => nomatch q), zx_MK_of zx_kFc0 zx_kLc0, zx_LK_of zx_codes zx_kKc0, zx_TB_of zx_by28, by first | exact rfl | exact ⟨rfl, by decide, by decide⟩, _, _, rfl, rfl⟩
  | 29, h1, h2, h3 => cases h1; cases h2; cases h3; exact ⟨rfl, rfl, rfl, rfl, (fun q => nomatch q), zx_MK_of zx_kFc0 zx_kLc0, zx_LK_of zx_codes zx_kKc0, zx_TB_of zx_by29, by first | exact rfl | exact ⟨rfl, by decide, by decide⟩, _, _, rfl, rfl⟩
  | 30, h1, h2, h3 => cases h1; cases h2; cases h3; exact ⟨rfl, rfl, rfl, rfl, (fun q => nomatch q), zx_MK_of zx_kFc0 zx_kLc0, zx_LK_of zx_codes zx_kKc0, zx_TB_of zx_by30, by first | exact rfl | exact ⟨rfl, by decide, by decide⟩, _, _, rfl, rfl⟩
  | 31, h1, h2, h3 => cases h1; cases h2; cases h3; exact ⟨rfl, rfl, rfl, rfl, (fun q => nomatch q), zx_MK_of zx_kFc4 zx_kLc4, zx_LK_of zx_codes zx_kKc4, zx_TB_of zx_by31, by first | exact rfl | exact ⟨rfl, by decide, by decide⟩, _, _, rfl, rfl⟩
  | 32, h1, h2, h3 => cases h1; cases h2; cases h3; exact ⟨rfl, rfl, rfl, rfl, (fun q => nomatch q), zx_MK_of zx_kFc0 zx_kLc0, zx_LK_of zx_codes zx_kKc0, zx_TB_of zx_by32, by first | exact rfl | exact ⟨rfl, by decide, by decide⟩, _, _, rfl, rfl⟩
  | 33, h1, h2, h3 => cases h1; cases h2; cases h3; exact ⟨rfl, rfl, rfl, rfl, (fun q => nomatch q), zx_MK_of zx_kFc0 zx_kLc0, zx_LK_of zx_codes zx_kKc0, zx_TB_of zx_by33, by first | exact rfl | exact ⟨rfl, by decide, by decide⟩, _, _, rfl, rfl⟩
  | 34, h1, h2, h3 => cases h1; cases h2; cases h3; exact ⟨rfl, rfl, rfl, rfl, (fun q => nomatch q), zx_MK_of zx_kFc5 zx_kLc5, zx_LK_of zx_codes zx_kKc5, zx_TB_of zx_by34, by first | exact rfl | exact ⟨rfl, by decide, by decide⟩, _, _, rfl, rfl⟩
  | 35, h1, h2, h3 => cases h1; cases h2; cases h3; exact ⟨rfl, rfl, rfl, rfl, (fun q => nomatch q), zx_MK_of zx_kFc11 zx_kLc11, zx_LK_of zx_codes zx_kKc11, zx_TB_of zx_by35, by first | exact rfl | exact ⟨rfl, by decide, by decide⟩, _, _, rfl, rfl⟩
  | 36, h1, h2, h3 => cases h1; cases h2; cases h3; exact ⟨rfl, rfl, rfl, rfl, (fun q => nomatch q), zx_MK_of zx_kFc0 zx_kLc0, zx_LK_of zx_codes zx_kKc0, zx_TB_of zx_by36, by first | exact rfl | exact ⟨rfl, by decide, by decide⟩, _, _, rfl, rfl⟩
  | 37, h1, h2, h3 => cases h1; cases h2; cases h3; exact ⟨rfl, rfl, rfl, rfl, (fun q => nomatch q), zx_MK_of zx_kFc9 zx_kLc9, zx_LK_of zx_codes zx_kKc9, zx_TB_of zx_by37, by first | exact rfl | exact ⟨rfl, by decide, by decide⟩, _, _, rfl, rfl⟩
  | 38, h1, h2, h3 => cases h1; cases h2; cases h3; exact ⟨rfl, rfl, rfl, rfl, (fun q => nomatch q), zx_MK_of zx_kFc9 zx_kLc9, zx_LK_of zx_codes zx_kKc9, zx_TB_of zx_by38, by first | exact rfl | exact ⟨rfl, by decide, by decide⟩, _, _, rfl, rfl⟩
  | 39, h1, h2, h3 => cases h1; cases h2; cases h3; exact ⟨rfl, rfl, rfl, rfl, (fun q => nomatch q), zx_MK_of zx_kFc6 zx_kLc6, zx_LK_of zx_codes zx_kKc6, zx_TB_of zx_by39, by first | exact rfl | exact ⟨rfl, by decide, by decide⟩, _, _, rfl, rfl⟩
  | 40, h1, h2, h3 => cases h1; cases h2; cases h3; exact ⟨rfl, rfl, rfl, rfl, (fun q => nomatch q), zx_MK_of zx_kFc6 zx_kLc6, zx_LK_of zx_codes zx_kKc6, zx_TB_of zx_by40, by first | exact rfl | exact ⟨rfl, by decide, by decide⟩, _, _, rfl, rfl⟩
  | 41, h1, h2, h3 => cases h1; cases h2; cases h3; exact ⟨rfl, rfl, rfl, rfl, (fun q => nomatch q), zx_MK_of zx_kFc6 zx_kLc6, zx_LK_of zx_codes zx_kKc6, zx_TB_of zx_by41, by first | exact rfl | exact ⟨rfl, by decide, by decide⟩, _, _, rfl, rfl⟩
  | 42, h1, h2, h3 => cases h1; cases h2; cases h3; exact ⟨rfl, rfl, rfl, rfl, (fun q => nomatch q), zx_MK_of zx_kFc6 zx_kLc6, zx_LK_of zx_codes zx_kKc6, zx_TB_of zx_by42, by first | exact rfl | exact ⟨rfl, by decide, by decide⟩, _, _, rfl, rfl⟩
  | 43, h1, h2, h3 => cases h1; cases h2; cases h3; exact ⟨rfl, rfl, rfl, rfl, (fun q => nomatch q), zx_MK_of zx_kFc6 zx_kLc6, zx_LK_of zx_codes zx_kKc6, zx_TB_of zx_by43, by first | exact rfl | exact ⟨rfl, by decide, by decide⟩, _, _, rfl, rfl⟩
  | 44, h1, h2, h3 => cases h1; cases h2; cases h3; exact ⟨rfl, rfl, rfl, rfl, (fun q => nomatch q), zx_MK_of zx_kFc6 zx_kLc6, zx_LK_of zx_codes zx_kKc6, zx_TB_of zx_by44, by first | exact rfl | exact ⟨rfl, by decide, by decide⟩, _, _, rfl, rfl⟩
  | 45, h1, h2, h3 => cases h1; cases h2; cases h3; exact ⟨rfl, rfl, rfl, rfl, (fun q => nomatch q), zx_MK_of zx_kFc6 zx_kLc6, zx_LK_of zx_codes zx_kKc6, zx_TB_of zx_by45, by first | exact rfl | exact ⟨rfl, by decide, by decide⟩, _, _, rfl, rfl⟩
  | 46, h1, h2, h3 => cases h1; cases h2; cases h3; exact ⟨rfl, rfl, rfl, rfl, (fun q => nomatch q), zx_MK_of zx_kFc9 zx_kLc9, zx_LK_of zx_codes zx_kKc9, zx_TB_of zx_by46, by first | exact rfl | exact ⟨rfl, by decide, by decide⟩, _, _, rfl, rfl⟩
  | 47, h1, h2, h3 => cases h1; cases h2; cases h3; exact ⟨rfl, rfl, rfl, rfl, (fun q => nomatch q), zx_MK_of zx_kFc0 zx_kLc0, zx_LK_of zx_codes zx_kKc0, zx_TB_of zx_by47, by first | exact rfl | exact ⟨rfl, by decide, by decide⟩, _, _, rfl, rfl⟩
  | 48, h1, h2, h3 => cases h1; cases h2; cases h3; exact ⟨rfl, rfl, rfl, rfl, (fun q => nomatch q), zx_MK_of zx_kFc0 zx_kLc0, zx_LK_of zx_codes zx_kKc0, zx_TB_of zx_by48, by first | exact rfl | exact ⟨rfl, by decide, by decide⟩, _, _, rfl, rfl⟩
  | 49, h1, h2, h3 => cases h1; cases h2; cases h3; exact ⟨rfl, rfl, rfl, rfl, (fun q => nomatch q), zx_MK_of zx_kFc0 zx_kLc0, zx_LK_of zx_codes zx_kKc0, zx_TB_of zx_by49, by first | exact rfl | exact ⟨rfl, by decide, by decide⟩, _, _, rfl, rfl⟩
  | 50, h1, h2, h3 => cases h1; cases h2; cases h3; exact ⟨rfl, rfl, rfl, rfl, (fun q => nomatch q), zx_MK_of zx_kFc0 zx_kLc0, zx_LK_of zx_codes zx_kKc0, zx_TB_of zx_by50, by first | exact rfl | exact ⟨rfl, by decide, by decide⟩, _, _, rfl, rfl⟩
  | 51, h1, h2, h3 => cases h1; cases h2; cases h3; exact ⟨rfl, rfl, rfl, rfl, (fun q => nomatch q), zx_MK_of zx_kFc0 zx_kLc0, zx_LK_of zx_codes zx_kKc0, zx_TB_of zx_by51, by first | exact rfl | exact ⟨rfl, by decide, by decide⟩, _, _, rfl, rfl⟩
  | 52, h1, h2, h3 => cases h1; cases h2; cases h3; exact ⟨rfl, rfl, rfl, rfl, (fun q => nomatch q), zx_MK_of zx_kFc6 zx_kLc6, zx_LK_of zx_codes zx_kKc6, zx_TB_of zx_by52, by first | exact rfl | exact ⟨rfl, by decide, by decide⟩, _, _, rfl, rfl⟩
  | 53, h1, h2, h3 => cases h1; cases h2; cases h3; exact ⟨rfl, rfl, rfl, rfl, (fun q => nomatch q), zx_MK_of zx_kFc0 zx_kLc0, zx_LK_of zx_codes zx_kKc0, zx_TB_of zx_by53, by first | exact rfl | exact ⟨rfl, by decide, by decide⟩, _, _, rfl, rfl⟩
  | 54, h1, h2, h3 => cases h1; cases h2; cases h3; exact ⟨rfl, rfl, rfl, rfl, (fun q => nomatch q), zx_MK_of zx_kFc0 zx_kLc0, zx_LK_of zx_codes zx_kKc0, zx_TB_of zx_by54, by first | exact rfl | exact ⟨rfl, by decide, by decide⟩, _, _, rfl, rfl⟩
  | 55, h1, h2, h3 => cases h1; cases h2; cases h3; exact ⟨rfl, rfl, rfl, rfl, (fun q => nomatch q), zx_MK_of zx_kFc0 zx_kLc0, zx_LK_of zx_codes zx_kKc0, zx_TB_of zx_by55, by first | exact rfl | exact ⟨rfl, by decide, by decide⟩, _, _, rfl, rfl⟩
  | 56, h1, h2, h3 => cases h1; cases h2; cases h3; exact ⟨rfl, rfl, rfl, rfl, (fun q => nomatch q), zx_MK_of zx_kFc0 zx_kLc0, zx_LK_of zx_codes zx_kKc0, zx_TB_of zx_by56, by first | exact rfl | exact ⟨rfl, by decide, by decide⟩, _, _, rfl, rfl⟩
  | 57, h1, h2, h3 => cases h1; cases h2; cases h3; exact ⟨rfl, rfl, rfl, rfl, (fun q => nomatch q), zx_MK_of zx_kFc10 zx_kLc10, zx_LK_of zx_codes zx_kKc10, zx_TB_of zx_by57, by first | exact rfl | exact ⟨rfl, by decide, by decide⟩, _, _, rfl, rfl⟩
  | 58, h1, h2, h3 => cases h1; cases h2; cases h3; exact ⟨rfl, rfl, rfl, rfl, (fun q => nomatch q), zx_MK_of zx_kFc10 zx_kLc10, zx_LK_of zx_codes zx_kKc10, zx_TB_of zx_by58, by first | exact rfl | exact ⟨rfl, by decide, by decide⟩, _, _, rfl, rfl⟩
  | 59, h1, h2, h3 => cases h1; cases h2; cases h3; exact ⟨rfl, rfl, rfl, rfl, (fun q => nomatch q), zx_MK_of zx_kFc0 zx_kLc0, zx_LK_of zx_codes zx_kKc0, zx_TB_of zx_by59, by first | exact rfl | exact ⟨rfl, by decide, by decide⟩, _, _, rfl, rfl⟩
  | 60, h1, h2, h3 => cases h1; cases h2; cases h3; exact ⟨rfl, rfl, rfl, rfl, (fun q => nomatch q), zx_MK_of zx_kFc0 zx_kLc0, zx_LK_of zx_codes zx_kKc0, zx_TB_of zx_by60, by first | exact rfl | exact ⟨rfl, by decide, by decide⟩, _, _, rfl, rfl⟩
  | 61, h1, h2, h3 => cases h1; cases h2; cases h3; exact ⟨rfl, rfl, rfl, rfl, (fun q => nomatch q), zx_MK_of zx_kFc0 zx_kLc0, zx_LK_of zx_codes zx_kKc0, zx_TB_of zx_by61, by first | exact rfl | exact ⟨rfl, by decide, by decide⟩, _, _, rfl, rfl⟩
  | 62, h1, h2, h3 => cases h1; cases h2; cases h3; exact ⟨rfl, rfl, rfl, rfl, fun _ => rfl, zx_MK_of zx_kFic12 zx_kLc12, zx_LK_of zx_codes zx_kKc12, zx_TB_of zx_by62, by first | exact rfl | exact ⟨rfl, by decide, by decide⟩, _, _, rfl, rfl⟩
  | 63, h1, h2, h3 => cases h1; cases h2; cases h3; exact ⟨rfl, rfl, rfl, rfl, (fun q => nomatch q), zx_MK_of zx_kFc12 zx_kLc12, zx_LK_of zx_codes zx_kKc12, zx_TB_of zx_by63, by first | exact rfl | exact ⟨rfl, by decide, by decide⟩, _, _, rfl, rfl⟩
  | 64, h1, h2, h3 => cases h1; cases h2; cases h3; exact ⟨rfl, rfl, rfl, rfl, (fun q => nomatch q), zx_MK_of zx_kFc12 zx_kLc12, zx_LK_of zx_codes zx_kKc12, zx_TB_of zx_by64, by first | exact rfl | exact ⟨rfl, by decide, by decide⟩, _, _, rfl, rfl⟩
  | 65, h1, h2, h3 => cases h1; cases h2; cases h3; exact ⟨rfl, rfl, rfl, rfl, (fun q => nomatch q), zx_MK_of zx_kFc12 zx_kLc12, zx_LK_of zx_codes zx_kKc12, zx_TB_of zx_by65, by first | exact rfl | exact ⟨rfl, by decide, by decide⟩, _, _, rfl, rfl⟩
  | 66, h1, h2, h3 => cases h1; cases h2; cases h3; exact ⟨rfl, rfl, rfl, rfl, (fun q => nomatch q), zx_MK_of zx_kFc12 zx_kLc12, zx_LK_of zx_codes zx_kKc12, zx_TB_of zx_by66, by first | exact rfl | exact ⟨rfl, by decide, by decide⟩, _, _, rfl, rfl⟩
  | 67, h1, h2, h3 => cases h1; cases h2; cases h3; exact ⟨rfl, rfl, rfl, rfl, (fun q => nomatch q), zx_MK_of zx_kFc12 zx_kLc12, zx_LK_of zx_codes zx_kKc12, zx_TB_of zx_by67, by first | exact rfl | exact ⟨rfl, by decide, by decide⟩, _, _, rfl, rfl⟩
  | 68, h1, h2, h3 => cases h1; cases h2; cases h3; exact ⟨rfl, rfl, rfl, rfl, (fun q => nomatch q), zx_MK_of zx_kFc12 zx_kLc12, zx_LK_of zx_codes zx_kKc12, zx_TB_of zx_by68, by first | exact rfl | exact ⟨rfl, by decide, by decide⟩, _, _, rfl, rfl⟩
  | 69, h1, h2, h3 => cases h1; cases h2; cases h3; exact ⟨rfl, rfl, rfl, rfl, (fun q => nomatch q), zx_MK_of zx_kFc12 zx_kLc12, zx_LK_of zx_codes zx_kKc12, zx_TB_of zx_by69, by first | exact rfl | exact ⟨rfl, by decide, by decide⟩, _, _, rfl, rfl⟩
  | 70, h1, h2, h3 => cases h1; cases h2; cases h3; exact ⟨rfl, rfl, rfl, rfl, (fun q => nomatch q), zx_MK_of zx_kFc12 zx_kLc12, zx_LK_of zx_codes zx_kKc12, zx_TB_of zx_by70, by first | exact rfl | exact ⟨rfl, by decide, by decide⟩, _, _, rfl, rfl⟩
  | 71, h1, h2, h3 => cases h1; cases h2; cases h3; exact ⟨rfl, rfl, rfl, rfl, (fun q => nomatch q), zx_MK_of zx_kFc12 zx_kLc12, zx_LK_of zx_codes zx_kKc12, zx_TB_of zx_by71, by first | exact rfl | exact ⟨rfl, by decide, by decide⟩, _, _, rfl, rfl⟩
  | 72, h1, h2, h3 => cases h1; cases h2; cases h3; exact ⟨rfl, rfl, rfl, rfl, (fun q => nomatch q), zx_MK_of zx_kFc12 zx_kLc12, zx_LK_of zx_codes zx_kKc12, zx_TB_of zx_by72, by first | exact rfl | exact ⟨rfl, by decide, by decide⟩, _, _, rfl, rfl⟩
  | 73, h1, h2, h3 => cases h1; cases h2; cases h3; exact ⟨rfl, rfl, rfl, rfl, (fun q => nomatch q), zx_MK_of zx_kFc12 zx_kLc12, zx_LK_of zx_codes zx_kKc12, zx_TB_of zx_by73, by first | exact rfl | exact ⟨rfl, by decide, by decide⟩, _, _, rfl, rfl⟩
  | 74, h1, h2, h3 => cases h1; cases h2; cases h3; exact ⟨rfl, rfl, rfl, rfl, (fun q => nomatch q), zx_MK_of zx_kFc12 zx_kLc12, zx_LK_of zx_codes zx_kKc12, zx_TB_of zx_by74, by first | exact rfl | exact ⟨rfl, by decide, by decide⟩, _, _, rfl, rfl⟩
  | 75, h1, h2, h3 => cases h1; cases h2; cases h3; exact ⟨rfl, rfl, rfl, rfl, (fun q => nomatch q), zx_MK_of zx_kFc12 zx_kLc12, zx_LK_of zx_codes zx_kKc12, zx_TB_of zx_by75, by first | exact rfl | exact ⟨rfl, by decide, by decide⟩, _, _, rfl, rfl⟩
  | 76, h1, h2, h3 => cases h1; cases h2; cases h3; exact ⟨rfl, rfl, rfl, rfl, (fun q => nomatch q), zx_MK_of zx_kFc12 zx_kLc12, zx_LK_of zx_codes zx_kKc12, zx_TB_of zx_by76, by first | exact rfl | exact ⟨rfl, by decide, by decide⟩, _, _, rfl, rfl⟩
  | 77, h1, h2, h3 => cases h1; cases h2; cases h3; exact ⟨rfl, rfl, rfl, rfl, (fun q => nomatch q), zx_MK_of zx_kFc12 zx_kLc12, zx_LK_of zx_codes zx_kKc12, zx_TB_of zx_by77, by first | exact rfl | exact ⟨rfl, by decide, by decide⟩, _, _, rfl, rfl⟩
  | 78, h1, h2, h3 => cases h1; cases h2; cases h3; exact ⟨rfl, rfl, rfl, rfl, (fun q => nomatch q), zx_MK_of zx_kFc12 zx_kLc12, zx_LK_of zx_codes zx_kKc12, zx_TB_of zx_by78, by first | exact rfl | exact ⟨rfl, by decide, by decide⟩, _, _, rfl, rfl⟩
  | 79, h1, h2, h3 => cases h1; cases h2; cases h3; exact ⟨rfl, rfl, rfl, rfl, (fun q => nomatch q), zx_MK_of zx_kFc12 zx_kLc12, zx_LK_of zx_codes zx_kKc12, zx_TB_of zx_by79, by first | exact rfl | exact ⟨rfl, by decide, by decide⟩, _, _, rfl, rfl⟩
  | 80, h1, h2, h3 => cases h1; cases h2; cases h3; exact ⟨rfl, rfl, rfl, rfl, (fun q => nomatch q), zx_MK_of zx_kFc12 zx_kLc12, zx_LK_of zx_codes zx_kKc12, zx_TB_of zx_by80, by first | exact rfl | exact ⟨rfl, by decide, by decide⟩, _, _, rfl, rfl⟩
  | 81, h1, h2, h3 => cases h1; cases h2; cases h3; exact ⟨rfl, rfl, rfl, rfl, (fun q => nomatch q), zx_MK_of zx_kFc12 zx_kLc12, zx_LK_of zx_codes zx_kKc12, zx_TB_of zx_by81, by first | exact rfl | exact ⟨rfl, by decide, by decide⟩, _, _, rfl, rfl⟩
  | 82, h1, h2, h3 => cases h1; cases h2; cases h3; exact ⟨rfl, rfl, rfl, rfl, (fun q => nomatch q), zx_MK_of zx_kFc12 zx_kLc12, zx_LK_of zx_codes zx_kKc12, zx_TB_of zx_by82, by first | exact rfl | exact ⟨rfl, by decide, by decide⟩, _, _, rfl, rfl⟩
  | 83, h1, h2, h3 => cases h1; cases h2; cases h3; exact ⟨rfl, rfl, rfl, rfl, (fun q => nomatch q), zx_MK_of zx_kFc12 zx_kLc12, zx_LK_of zx_codes zx_kKc12, zx_TB_of zx_by83, by first | exact rfl | exact ⟨rfl, by decide, by decide⟩, _, _, rfl, rfl⟩
  | 84, h1, h2, h3 => cases h1; cases h2; cases h3; exact ⟨rfl, rfl, rfl, rfl, (fun q => nomatch q), zx_MK_of zx_kFc12 zx_kLc12, zx_LK_of zx_codes zx_kKc12, zx_TB_of zx_by84, by first | exact rfl | exact ⟨rfl, by decide, by decide⟩, _, _, rfl, rfl⟩
  | 85, h1, h2, h3 => cases h1; cases h2; cases h3; exact ⟨rfl, rfl, rfl, rfl, (fun q => nomatch q), zx_MK_of zx_kFc12 zx_kLc12, zx_LK_of zx_codes zx_kKc12, zx_TB_of zx_by85, by first | exact rfl | exact ⟨rfl, by decide, by decide⟩, _, _, rfl, rfl⟩
  | 86, h1, h2, h3 => cases h1; cases h2; cases h3; exact ⟨rfl, rfl, rfl, rfl, (fun q => nomatch q), zx_MK_of zx_kFc12 zx_kLc12, zx_LK_of zx_codes zx_kKc12, zx_TB_of zx_by86, by first | exact rfl | exact ⟨rfl, by decide, by decide⟩, _, _, rfl, rfl⟩
  | 87, h1, h2, h3 => cases h1; cases h2; cases h3; exact ⟨rfl, rfl, rfl, rfl, (fun q => nomatch q), zx_MK_of zx_kFc12 zx_kLc12, zx_LK_of zx_codes zx_kKc12, zx_TB_of zx_by87, by first | exact rfl | exact ⟨rfl, by decide, by decide⟩, _, _, rfl, rfl⟩
  | 88, h1, h2, h3 => cases h1; cases h2; cases h3; exact ⟨rfl, rfl, rfl, rfl, (fun q => nomatch q), zx_MK_of zx_kFc12 zx_kLc12, zx_LK_of zx_codes zx_kKc12, zx_TB_of zx_by88, by first | exact rfl | exact ⟨rfl, by decide, by decide⟩, _, _, rfl, rfl⟩
  | 89, h1, h2, h3 => cases h1; cases h2; cases h3; exact ⟨rfl, rfl, rfl, rfl, (fun q => nomatch q), zx_MK_of zx_kFc12 zx_kLc12, zx_LK_of zx_codes zx_kKc12, zx_TB_of zx_by89, by first | exact rfl | exact ⟨rfl, by decide, by decide⟩, _, _, rfl, rfl⟩
  | 90, h1, h2, h3 => cases h1; cases h2; cases h3; exact ⟨rfl, rfl, rfl, rfl, (fun q => nomatch q), zx_MK_of zx_kFc12 zx_kLc12, zx_LK_of zx_codes zx_kKc12, zx_TB_of zx_by90, by first | exact rfl | exact ⟨rfl, by decide, by decide⟩, _, _, rfl, rfl⟩
  | 91, h1, h2, h3 => cases h1; cases h2; cases h3; exact ⟨rfl, rfl, rfl, rfl, (fun q => nomatch q), zx_MK_of zx_kFc12 zx_kLc12, zx_LK_of zx_codes zx_kKc12, zx_TB_of zx_by91, by first | exact rfl | exact ⟨rfl, by decide, by decide⟩, _, _, rfl, rfl⟩
  | 92, h1, h2, h3 => cases h1; cases h2; cases h3; exact ⟨rfl, rfl, rfl, rfl, (fun q => nomatch q), zx_MK_of zx_kFc12 zx_kLc12, zx_LK_of zx_codes zx_kKc12, zx_TB_of zx_by92, by first | exact rfl | exact ⟨rfl, by decide, by decide⟩, _, _, rfl, rfl⟩
  | 93, h1, h2, h3 => cases h1; cases h2; cases h3; exact ⟨rfl, rfl, rfl, rfl, (fun q => nomatch q), zx_MK_of zx_kFc12 zx_kLc12, zx_LK_of zx_codes zx_kKc12, zx_TB_of zx_by93, by first | exact rfl | exact ⟨rfl, by decide, by decide⟩, _, _, rfl, rfl⟩
  | 94, h1, h2, h3 => cases h1; cases h2; cases h3; exact ⟨rfl, rfl, rfl, rfl, (fun q => nomatch q), zx_MK_of zx_kFc12 zx_kLc12, zx_LK_of zx_codes zx_kKc12, zx_TB_of zx_by94, by first | exact rfl | exact ⟨rfl, by decide, by decide⟩, _, _, rfl, rfl⟩
  | 95, h1, h2, h3 => cases h1; cases h2; cases h3; exact ⟨rfl, rfl, rfl, rfl, (fun q => nomatch q), zx_MK_of zx_kFc12 zx_kLc12, zx_LK_of zx_codes zx_kKc12, zx_TB_of zx_by95, by first | exact rfl | exact ⟨rfl, by decide, by decide⟩, _, _, rfl, rfl⟩
  | 96, h1, h2, h3 => cases h1; cases h2; cases h3; exact ⟨rfl, rfl, rfl, rfl, (fun q => nomatch q), zx_MK_of zx_kFc12 zx_kLc12, zx_LK_of zx_codes zx_kKc12, zx_TB_of zx_by96, by first | exact rfl | exact ⟨rfl, by decide, by decide⟩, _, _, rfl, rfl⟩
  | 97, h1, h2, h3 => cases h1; cases h2; cases h3; exact ⟨rfl, rfl, rfl, rfl, (fun q => nomatch q), zx_MK_of zx_kFc12 zx_kLc12, zx_LK_of zx_codes zx_kKc12, zx_TB_of zx_by97, by first | exact rfl | exact ⟨rfl, by decide, by decide⟩, _, _, rfl, rfl⟩
  | 98, h1, h2, h3 => cases h1; cases h2; cases h3; exact ⟨rfl, rfl, rfl, rfl, (fun q => nomatch q), zx_MK_of zx_kFc12 zx_kLc12, zx_LK_of zx_codes zx_kKc12, zx_TB_of zx_by98, by first | exact rfl | exact ⟨rfl, by decide, by decide⟩, _, _, rfl, rfl⟩
  | 99, h1, h2, h3 => cases h1; cases h2; cases h3; exact ⟨rfl, rfl, rfl, rfl, (fun q => nomatch q), zx_MK_of zx_kFc12 zx_kLc12, zx_LK_of zx_codes zx_kKc12, zx_TB_of zx_by99, by first | exact rfl | exact ⟨rfl, by decide, by decide⟩, _, _, rfl, rfl⟩
  | 100, h1, h2, h3 => cases h1; cases h2; cases h3; exact ⟨rfl, rfl, rfl, rfl, (fun q => nomatch q), zx_MK_of zx_kFc12 zx_kLc12, zx_LK_of zx_codes zx_kKc12, zx_TB_of zx_by100, by first | exact rfl | exact ⟨rfl, by decide, by decide⟩, _, _, rfl, rfl⟩
  | 101, h1, h2, h3 => cases h1; cases h2; cases h3; exact ⟨rfl, rfl, rfl, rfl, (fun q => nomatch q), zx_MK_of zx_kFc12 zx_kLc12, zx_LK_of zx_codes zx_kKc12, zx_TB_of zx_by101, by first | exact rfl | exact ⟨rfl, by decide, by decide⟩, _, _, rfl, rfl⟩
  | 102, h1, h2, h3 => cases h1; cases h2; cases h3; exact ⟨rfl, rfl, rfl, rfl, (fun q => nomatch q), zx_MK_of zx_kFc12 zx_kLc12, zx_LK_of zx_codes zx_kKc12, zx_TB_of zx_by102, by first | exact rfl | exact ⟨rfl, by decide, by decide⟩, _, _, rfl, rfl⟩
  | 103, h1, h2, h3 => cases h1; cases h2; cases h3; exact ⟨rfl, rfl, rfl, rfl, (fun q => nomatch q), zx_MK_of zx_kFc12 zx_kLc12, zx_LK_of zx_codes zx_kKc12, zx_TB_of zx_by103, by first | exact rfl | exact ⟨rfl, by decide, by decide⟩, _, _, rfl, rfl⟩
  | 104, h1, h2, h3 => cases h1; cases h2; cases h3; exact ⟨rfl, rfl, rfl, rfl, (fun q => nomatch q), zx_MK_of zx_kFc12 zx_kLc12, zx_LK_of zx_codes zx_kKc12, zx_TB_of zx_by104, by first | exact rfl | exact ⟨rfl, by decide, by decide⟩, _, _, rfl, rfl⟩
  | 105, h1, h2, h3 => cases h1; cases h2; cases h3; exact ⟨rfl, rfl, rfl, rfl, (fun q => nomatch q), zx_MK_of zx_kFc12 zx_kLc12, zx_LK_of zx_codes zx_kKc12, zx_TB_of zx_by105, by first | exact rfl | exact ⟨rfl, by decide, by decide⟩, _, _, rfl, rfl⟩
  | 106, h1, h2, h3 => cases h1; cases h2; cases h3; exact ⟨rfl, rfl, rfl, rfl, (fun q => nomatch q), zx_MK_of zx_kFc12 zx_kLc12, zx_LK_of zx_codes zx_kKc12, zx_TB_of zx_by106, by first | exact rfl | exact ⟨rfl, by decide, by decide⟩, _, _, rfl, rfl⟩
  | 107, h1, h2, h3 => cases h1; cases h2; cases h3; exact ⟨rfl, rfl, rfl, rfl, (fun q => nomatch q), zx_MK_of zx_kFc12 zx_kLc12, zx_LK_of zx_codes zx_kKc12, zx_TB_of zx_by107, by first | exact rfl | exact ⟨rfl, by decide, by decide⟩, _, _, rfl, rfl⟩
  | 108, h1, h2, h3 => cases h1; cases h2; cases h3; exact ⟨rfl, rfl, rfl, rfl, (fun q => nomatch q), zx_MK_of zx_kFc12 zx_kLc12, zx_LK_of zx_codes zx_kKc12, zx_TB_of zx_by108, by first | exact rfl | exact ⟨rfl, by decide, by decide⟩, _, _, rfl, rfl⟩
  | n + 109, h1, h2, h3 => simp [zx_Pt] at h1
end
section
/-! THE CLAIM OUT OF ONE WALK OF THE LAW'S BODY. Your part is whole_start (and what it stands on); all else here is the same for every law, but numbers. -/
def R_law : String := "OperaHouseLaw"
def lw_P (b : Addr) (xs : List Int32) (args : Array Value) (s : State) : Prop := args = #[.ref b] ∧ s.IntsAt b xs ∧ xs.length ≤ 6 ∧ (Jvm.Cond.and given_1 narrow_1).before args s = true
def lw_Q (_ : Array Value) (s : State) (o : Outcome) (t : State) : Prop := o = .returned (some (.int 1)) ∧ Framed s o t [] 600002 7302232
def lw_Z (below : List Frame) (a : Array Value) (s : State) : State → Prop := fun t => ∃ o, t.status = .running ∧ Ended t below o ∧ lw_Q a s o t
/-- the law's own end, with 1 on the stack, nothing written that was there before, its room as the claim has it -/
theorem lw_ret {p : Program} {l : Launch} {e : Env} {s : State} {m : MethodId} {below : List Frame} {meth : Method} {c : Code} {b : Nat} (hx : p.tables.exec = Jvm.exec) (hb : c.code = code) (hr : meth.sig.returnType = ret) (hlocks : meth.locks = false) {pc : Nat} {H : Heap} {ls : Array Slot} (hdg : decode code pc = .ok (.ireturn, 1)) : W p l e room_1 s m #[Value.ref b] below meth c H [] 600002 7302232 (lw_Z below #[Value.ref b] s) (F0 m pc ls [.int 1]) := by
  intro T hT X
  obtain ⟨fs, hret, hrun, hended, hW, hframe⟩ := X.leave (v := some (.int 1)) (hlocks := hlocks) (fun h => by rw [hr] at h; cases h)
  have hmeth' : T.vm.method? m = some meth := X.method'
  refine ⟨T.setFrames fs, ?_, .returned (some (.int 1)), hrun, hended, rfl, ⟨_, rfl⟩, hW, hframe⟩
  jvm_step X.here [X.here.top, hx, hb, hdg, hmeth', hr, ret, narrow_b1]
  (try refine ⟨rfl, ?_⟩); (try refine ⟨rfl, ?_⟩)
  first | (intro acts; rw [hret _ acts rfl rfl rfl]) | rw [hret _ _ rfl rfl rfl]
  exact Steps.refl _
/-- what holds at the law's entry: the machine, the code, the tables' words (any of lw_tbl by 'hts w (by decide +kernel)'), the script of L ints xs at the cell b, what the Statement gives of the start (any of its parts by flat_of_before) -/
def lw_At (p : Program) (s : State) (m : MethodId) (meth : Method) (c : Code) (b L : Nat) (xs : Nat → Int32) : Prop :=
  p.tables.exec = Jvm.exec ∧ c.code = code ∧ meth.sig.returnType = ret ∧ c.maxLocals = 7 ∧ s.vm.findClass R_law = some m.cls ∧ (∀ w ∈ lw_tbl, w.before #[Value.ref b] s = true) ∧ va_X b L xs s s.heap ∧ b < s.heap.size ∧ meth.locks = false ∧ (Jvm.Cond.and given_1 narrow_1).before #[Value.ref b] s = true
end
section
/-! zx: the start: statics, classes -/
set_option maxRecDepth 1000000 in
theorem zx_CX0 {s : State} {args : Array Value} (hts : ∀ w ∈ lw_tbl, w.before args s = true) (hgv : (Jvm.Cond.and given_1 narrow_1).before args s = true) : ∃ ex : List Nat, zx_CX ex (fun q => s.heap.size ≤ q) s s.heap zx_sts zx_Yt := by
  have hs := flat_of_before _ hgv
  have hA : ∀ a : Nat, a < s.heap.size → ¬ (fun q : Nat => s.heap.size ≤ q) a := fun a h q => Nat.not_le.mpr h q
  have hF : (Jvm.Cond.exactly (.static "OperaHouse$Token" "FINISH" "LOperaHouse$Token;") "OperaHouse$Token").before args s = true := hs _ (by decide +kernel)
  obtain ⟨aF, _, _, _, hF1, -⟩ := Cond.exactly_spec (args := args) (first := s) (o := none) (s := s) (idx := []) hF
  have hZF := va_Zof (A := fun q => s.heap.size ≤ q) (hts (.laysStatic "OperaHouse$Token" "FINISH" "LOperaHouse$Token;") (zx_chunk_ok (c := 2) (List.mem_of_getElem? (i := 100) rfl))) (hts (.initialized "OperaHouse$Token") (zx_chunk_ok (c := 1) (List.mem_of_getElem? (i := 10) rfl))) hF1 hA
  have hNEARa : (Jvm.Cond.arrayOf (.static "OperaHouse" "NEAR" "[I") .int).before args s = true := hs _ (by decide +kernel)
  have hNEARl : (Jvm.Cond.eq (.length (.static "OperaHouse" "NEAR" "[I")) (.int 15)).before args s = true := hs _ (by decide +kernel)
  have hNEARe : ∀ j, j < 15 → Jvm.Cond.eq (.elem (.static "OperaHouse" "NEAR" "[I") (.int (Int32.ofNat j))) (.int (Int32.ofInt (([1, 2, 3, 0, 4, -1, 0, -1, -1, 0, 4, -1, 1, 3, -1] : List Int).getD j 0))) ∈ flatC (Jvm.Cond.and given_1 narrow_1) := by decide +kernel
  obtain ⟨aNEAR, hNEAR1, hNEAR2⟩ := va_Tof (N := 15) (ty := .int) (f := fun j => .int (Int32.ofInt (([1, 2, 3, 0, 4, -1, 0, -1, -1, 0, 4, -1, 1, 3, -1] : List Int).getD j 0))) (A := fun q => s.heap.size ≤ q) (by decide) hNEARa (va_eqt hNEARl) (fun j hj => va_eqt (hs _ (hNEARe j hj))) hA
  have hZNEAR := va_Zof (A := fun q => s.heap.size ≤ q) (hts (.laysStatic "OperaHouse" "NEAR" "[I") (zx_chunk_ok (c := 4) (List.mem_of_getElem? (i := 191) rfl))) (hts (.initialized "OperaHouse") (zx_chunk_ok (c := 1) (List.mem_of_getElem? (i := 1) rfl))) hNEAR1 hA
  have hWORTHa : (Jvm.Cond.arrayOf (.static "OperaHouse" "WORTH" "[I") .int).before args s = true := hs _ (by decide +kernel)
  have hWORTHl : (Jvm.Cond.eq (.length (.static "OperaHouse" "WORTH" "[I")) (.int 4)).before args s = true := hs _ (by decide +kernel)
  have hWORTHe : ∀ j, j < 4 → Jvm.Cond.eq (.elem (.static "OperaHouse" "WORTH" "[I") (.int (Int32.ofNat j))) (.int (Int32.ofInt (([1, 5, 25, 125] : List Int).getD j 0))) ∈ flatC (Jvm.Cond.and given_1 narrow_1) := by decide +kernel
  obtain ⟨aWORTH, hWORTH1, hWORTH2⟩ := va_Tof (N := 4) (ty := .int) (f := fun j => .int (Int32.ofInt (([1, 5, 25, 125] : List Int).getD j 0))) (A := fun q => s.heap.size ≤ q) (by decide) hWORTHa (va_eqt hWORTHl) (fun j hj => va_eqt (hs _ (hWORTHe j hj))) hA
  have hZWORTH := va_Zof (A := fun q => s.heap.size ≤ q) (hts (.laysStatic "OperaHouse" "WORTH" "[I") (zx_chunk_ok (c := 4) (List.mem_of_getElem? (i := 186) rfl))) (hts (.initialized "OperaHouse") (zx_chunk_ok (c := 1) (List.mem_of_getElem? (i := 1) rfl))) hWORTH1 hA
  refine ⟨[aF, aNEAR, aWORTH], fun q hq => ?_, fun q hq => ?_⟩
  · simp only [zx_sts, List.mem_cons, List.not_mem_nil, or_false] at hq
    rcases hq with rfl | rfl | rfl
    · exact ⟨aF, rfl, hZF⟩
    · exact ⟨aNEAR, rfl, hZNEAR⟩
    · exact ⟨aWORTH, rfl, hZWORTH⟩
  · simp only [zx_Yt, List.mem_cons, List.not_mem_nil, or_false] at hq
    rcases hq with rfl | rfl
    · exact ⟨aNEAR, by decide, rfl, by decide, hNEAR2⟩
    · exact ⟨aWORTH, by decide, rfl, by decide, hWORTH2⟩
theorem zx_inst : ∀ (c : Nat) (q : vw_C), vwCl[c]? = some q → ∃ n, Jvm.Cond.instantiable q.1 n ∈ zx_Ts := by
  intro c q h
  match c, h with
  | 0, h => cases h; exact ⟨8, zx_mem (c := 1) (i := 192) rfl rfl⟩
  | 1, h => cases h; exact ⟨9, zx_mem (c := 1) (i := 41) rfl rfl⟩
  | 2, h => cases h; exact ⟨12, zx_mem (c := 1) (i := 35) rfl rfl⟩
  | 3, h => cases h; exact ⟨6, zx_mem (c := 2) (i := 169) rfl rfl⟩
  | 4, h => cases h; exact ⟨13, zx_mem (c := 2) (i := 196) rfl rfl⟩
  | 5, h => cases h; exact ⟨19, zx_mem (c := 2) (i := 2) rfl rfl⟩
  | 6, h => cases h; exact ⟨10, zx_mem (c := 1) (i := 88) rfl rfl⟩
  | 7, h => cases h; exact ⟨9, zx_mem (c := 2) (i := 94) rfl rfl⟩
  | 8, h => cases h; exact ⟨3, zx_mem (c := 2) (i := 78) rfl rfl⟩
  | 9, h => cases h; exact ⟨9, zx_mem (c := 2) (i := 133) rfl rfl⟩
  | 10, h => cases h; exact ⟨14, zx_mem (c := 1) (i := 27) rfl rfl⟩
  | 11, h => cases h; exact ⟨101, zx_mem (c := 6) (i := 23) rfl rfl⟩
  | n + 12, h => simp [vwCl] at h
/-- a number for each place of a list, by a choice for each -/
theorem zx_choose {α β : Type} {P : Nat → α → β → Prop} (d : β) : ∀ (l : List α), (∀ (c : Nat) (q : α), l[c]? = some q → ∃ x, P c q x) → ∃ f : Nat → β, ∀ (c : Nat) (q : α), l[c]? = some q → P c q (f c)
  | [], _ => ⟨fun _ => d, fun c q h => by simp at h⟩
  | a :: r, h => by
    obtain ⟨x, hx⟩ := h 0 a rfl
    obtain ⟨f, hf⟩ := zx_choose (P := fun c => P (c + 1)) d r (fun c q hc => h (c + 1) q (by simpa using hc))
    refine ⟨fun c => match c with
      | 0 => x
      | c + 1 => f c, fun c q hc => ?_⟩
    match c, hc with
    | 0, hc => cases hc; exact hx
    | c + 1, hc => exact hf c q (by simpa using hc)
theorem zx_K0 {s : State} {args : Array Value} (hts : ∀ w ∈ zx_Ts, w.before args s = true) : ∃ D : va_G, va_K D vwCl [] s := by
  obtain ⟨f, hf⟩ := zx_choose (P := fun _ (q : vw_C) (x : ClassId × (Nat → Nat)) => u_Kn s q.1 q.2.1 q.2.2 x.1 x.2) (0, fun _ => 0) vwCl (fun c q hq => by
    obtain ⟨C, T, N⟩ := q
    obtain ⟨n, hn⟩ := zx_inst c _ hq
    obtain ⟨cC, iS, h⟩ := u_known (C := C) (T := T) (N := N) hts (zx_CKt c C T N hq).1 (hts _ hn)
    exact ⟨(cC, iS), h⟩)
  exact ⟨(fun k => (f k).1, fun k => (f k).2), fun c q hq => hf c q hq, fun k q h => by simp at h⟩
theorem zx_nw0 {s : State} {args : Array Value} (hts : ∀ w ∈ lw_tbl, w.before args s = true) : ∀ w ∈ zx_nw, va_Nw w s := by
  have h : ∀ w ∈ zx_nw, w ∈ lw_tbl ∧ w.onTables = true := by
    intro w hw
    simp only [zx_nw, List.mem_cons, List.not_mem_nil, or_false] at hw
    rcases hw with rfl | rfl | rfl | rfl | rfl | rfl | rfl | rfl | rfl | rfl | rfl | rfl | rfl
    · exact ⟨zx_chunk_ok (c := 1) (List.mem_of_getElem? (i := 89) rfl), rfl⟩
    · exact ⟨zx_chunk_ok (c := 1) (List.mem_of_getElem? (i := 193) rfl), rfl⟩
    · exact ⟨zx_chunk_ok (c := 2) (List.mem_of_getElem? (i := 3) rfl), rfl⟩
    · exact ⟨zx_chunk_ok (c := 2) (List.mem_of_getElem? (i := 79) rfl), rfl⟩
    · exact ⟨zx_chunk_ok (c := 3) (List.mem_of_getElem? (i := 82) rfl), rfl⟩
    · exact ⟨zx_chunk_ok (c := 3) (List.mem_of_getElem? (i := 188) rfl), rfl⟩
    · exact ⟨zx_chunk_ok (c := 3) (List.mem_of_getElem? (i := 190) rfl), rfl⟩
    · exact ⟨zx_chunk_ok (c := 3) (List.mem_of_getElem? (i := 196) rfl), rfl⟩
    · exact ⟨zx_chunk_ok (c := 3) (List.mem_of_getElem? (i := 215) rfl), rfl⟩
    · exact ⟨zx_chunk_ok (c := 4) (List.mem_of_getElem? (i := 83) rfl), rfl⟩
    · exact ⟨zx_chunk_ok (c := 4) (List.mem_of_getElem? (i := 185) rfl), rfl⟩
    · exact ⟨zx_chunk_ok (c := 4) (List.mem_of_getElem? (i := 190) rfl), rfl⟩
    · exact ⟨zx_chunk_ok (c := 5) (List.mem_of_getElem? (i := 121) rfl), rfl⟩
  exact fun w hw => va_Nw.of (h w hw).2 (hts w (h w hw).1)
theorem zx_ao0 {s : State} {args : Array Value} (hts : ∀ w ∈ lw_tbl, w.before args s = true) : ∀ C ∈ zx_aos, va_AO C s := by
  intro C hC
  simp only [zx_aos, List.mem_cons, List.not_mem_nil, or_false] at hC
  rcases hC with rfl | rfl
  · exact va_AO.of (hts (.arrayOver (.object "OperaHouse$Opera")) (zx_chunk_ok (c := 1) (List.mem_of_getElem? (i := 86) rfl)))
  · exact va_AO.of (hts (.arrayOver (.object "OperaHouse$Contract")) (zx_chunk_ok (c := 1) (List.mem_of_getElem? (i := 87) rfl)))
end
section
/-! zx: the law's walk, cut at each call -/
def zx_is1 (o : zx_Ou) : Bool := match o.2.2 with
  | some (.inl e) => zx_isc e && decide (e.2 = 1)
  | _ => false
def zx_G0 : zx_G := [(0, 6), (-2147483648, 2147483647), (-2147483648, 2147483647), (-2147483648, 2147483647), (-2147483648, 2147483647), (-2147483648, 2147483647), (-2147483648, 2147483647)]
def zx_stp : Nat → Bool := zx_has [168, 241, 266, 291, 368, 417, 466, 503, 528, 541, 602, 675, 752, 801, 878, 903, 971, 1032, 1081, 1130, 1179, 1216, 1265, 1314, 1351, 1400, 1425, 1438]
section ZXL
variable {p : Program} {l : Launch} {e : Env} {s : State} {m : MethodId} {below : List Frame} {meth : Method} {c : Code} {b L : Nat} {xs : Nat → Int32} {D : va_G} {ex : List Nat} {f : zx_Fn} {d : Nat}
abbrev zx_A0 (s : State) : Nat → Prop := fun q => s.heap.size ≤ q
theorem zx_law_ok (hL : L ≤ 6) (C0 : lw_At p s m meth c b L xs) (hCX : zx_CX ex (zx_A0 s) s s.heap zx_sts zx_Yt) (hf : zx_FOK l vwCl zx_Ts zx_nw zx_sts zx_Yt zx_aos zx_PRt zx_rmt d f) (hd : d ≤ 800) {stp : Nat → Bool} {n : Nat} {x : Nat × Instr × Nat} {nx : List (Nat × Instr × Nat)} {r : List Int} {G : zx_G} {h : List zx_C} {lv : List (Nat × zx_V)} {k : Nat × Nat} {sk : List zx_V} {os : List zx_Os} {H : Heap} {locs : List Loc} {ls : Array Slot} {kc : List Value}
    (hsub : ∀ y ∈ x :: nx, y ∈ zx_tlaw) (J : zx_J D vwCl (zx_A0 s) b ex [] 7 s ([(L : Int), (xs 0).toInt, (xs 1).toInt, (xs 2).toInt, (xs 3).toInt, (xs 4).toInt, (xs 5).toInt] ++ r) G h lv sk H locs ls kc) (hz : zx_ex zx_Yt zx_dt zx_rmt stp zx_mlaw f n (x :: nx) G h lv k sk = some os) (h1 : ∀ o, .inl o ∈ os → zx_is1 o = true)
    (h2 : ∀ q : Nat × zx_T, .inr q ∈ os → ∀ (r2 : List Int) (H' : Heap) (locs' : List Loc) (ls' : Array Slot) (kc' : List Value), zx_J D vwCl (zx_A0 s) b ex [] 7 s ([(L : Int), (xs 0).toInt, (xs 1).toInt, (xs 2).toInt, (xs 3).toInt, (xs 4).toInt, (xs 5).toInt] ++ r2) q.2.1 q.2.2.1 q.2.2.2.1 q.2.2.2.2.1 H' locs' ls' kc' → W p l e room_1 s m #[Value.ref b] below meth c H' locs' q.2.2.2.2.2.1 q.2.2.2.2.2.2 (lw_Z below #[Value.ref b] s) (F0 m q.1 ls' kc')) : W p l e room_1 s m #[Value.ref b] below meth c H locs k.1 k.2 (lw_Z below #[Value.ref b] s) (F0 m x.1 ls kc) := by
  obtain ⟨hx, hb, hr, hml, hown, hts, hX, hbl, hlocks, hgv⟩ := C0
  have htT : ∀ w ∈ zx_Ts, w.before #[Value.ref b] s = true := fun w hw => hts w (List.mem_filter.mp hw).1
  have F : zx_FX p s m #[Value.ref b] meth c room_1 code zx_oc13 zx_Ts zx_nw vwCl (zx_A0 s) ex 7 zx_sts zx_Yt zx_aos zx_dt zx_mlaw.2.1 :=
    ⟨hx, hb, hown, htT, zx_nw0 hts, fun _ h => h, ⟨rfl, rfl⟩, (fun q => nomatch (show false = true from q)), rfl, hCX, zx_ao0 hts, zx_CKt, zx_MK_of zx_kFc13 zx_kLc13⟩
  have hS : zx_SX b xs (zx_A0 s) s zx_mlaw.2.1 ([(L : Int), (xs 0).toInt, (xs 1).toInt, (xs 2).toInt, (xs 3).toInt, (xs 4).toInt, (xs 5).toInt] ++ r) := by
    intro _
    refine ⟨L, hX, hbl, Nat.not_le.mpr hbl, by omega, rfl, fun j hj => ?_⟩
    match j, hj with
    | 0, _ => rfl
    | 1, _ => rfl
    | 2, _ => rfl
    | 3, _ => rfl
    | 4, _ => rfl
    | 5, _ => rfl
    | n + 6, hj => omega
  refine zx_ex_ok (xs := xs) (own := zx_oc13) F zx_arrs hf (zx_LK_of zx_codes zx_kKc13) zx_Ts_good zx_nw_kind ⟨by show d + 1 ≤ 2048; omega, by show 100 * (d + 1) ≤ 84000; omega⟩ hml (zx_TB_of zx_bylaw) n x nx _ G h lv k sk os H locs ls kc hS hsub J hz ⟨fun o ho r2 H' locs' ls' kc' pc' k' ir tys ws g1 g2 g3 g4 g5 g6 g7 g8 g9 g10 g11 => ?_, fun q hq r2 H' locs' ls' kc' J' => ?_⟩
  · have hi := h1 o ho
    unfold zx_is1 at hi
    split at hi
    · rename_i e1 he1
      simp only [Bool.and_eq_true, decide_eq_true_iff] at hi
      rcases g11 with ⟨-, e2, -⟩ | ⟨rfl, e2, w, e3, rfl, e4, -⟩ | ⟨-, q, x1, e2, -⟩ | ⟨-, w, e2, -⟩
      · rw [he1] at e2; cases e2
      · rw [he1] at e3
        cases e3
        have hw : w = 1 := Int32.toInt_inj.mp (by rw [zx_isc_ev hi.1 e4, hi.2]; rfl)
        subst hw
        refine va_forget (fun q hq => g5.2.2 q hq) ?_
        refine W.widen (k := 600002) (n := 7302232) g8 g9 ?_
        exact lw_ret hx hb hr hlocks g10
      · rw [he1] at e2; cases e2
      · rw [he1] at e2; cases e2
    · cases hi
  · rw [List.append_assoc] at J'
    exact h2 q hq (r ++ r2) H' locs' ls' kc' J'
/-- a run from a place of the law that ends, always with 1 -/
noncomputable def zx_lB (f : zx_Fn) (n : Nat) (q : Nat × zx_T) : Bool := match zx_ex zx_Yt zx_dt zx_rmt (fun _ => false) zx_mlaw f n (zx_drop q.1 zx_tlaw) q.2.1 q.2.2.1 q.2.2.2.1 q.2.2.2.2.2 q.2.2.2.2.1 with
  | some os => os.all (fun o => match o with
    | .inl o => zx_is1 o
    | .inr _ => false)
  | none => false
theorem zx_lB_ok (hL : L ≤ 6) (C0 : lw_At p s m meth c b L xs) (hCX : zx_CX ex (zx_A0 s) s s.heap zx_sts zx_Yt) (hf : zx_FOK l vwCl zx_Ts zx_nw zx_sts zx_Yt zx_aos zx_PRt zx_rmt d f) (hd : d ≤ 800) {n : Nat} {q : Nat × zx_T} (hq : zx_lB f n q = true) {r : List Int} {H : Heap} {locs : List Loc} {ls : Array Slot} {kc : List Value}
    (J : zx_J D vwCl (zx_A0 s) b ex [] 7 s ([(L : Int), (xs 0).toInt, (xs 1).toInt, (xs 2).toInt, (xs 3).toInt, (xs 4).toInt, (xs 5).toInt] ++ r) q.2.1 q.2.2.1 q.2.2.2.1 q.2.2.2.2.1 H locs ls kc) : W p l e room_1 s m #[Value.ref b] below meth c H locs q.2.2.2.2.2.1 q.2.2.2.2.2.2 (lw_Z below #[Value.ref b] s) (F0 m q.1 ls kc) := by
  unfold zx_lB at hq
  split at hq
  · rename_i os hos
    have hall := List.all_eq_true.mp hq
    cases hc : zx_drop q.1 zx_tlaw with
    | nil => rw [hc, zx_ex_nil] at hos; cases hos
    | cons x nx =>
      obtain ⟨g1, g2⟩ := zx_drop_ok (t := q.1) (l := zx_tlaw)
      rw [hc] at hos g1
      rw [← g2 x nx hc]
      refine zx_law_ok hL C0 hCX hf hd g1 J hos (fun o ho => hall _ ho) (fun q' hq' => ?_)
      have := hall _ hq'
      cases this
  · cases hq
end ZXL
end
section
/-! zx: the law's ways, run -/
def zx_xf0 : zx_Fn := fun _ _ _ _ => none
noncomputable def zx_ft : zx_Fn := zx_run zx_Yt zx_dt zx_rmt zx_Pt zx_xf0 4000 8
theorem zx_ft_ok {l : Launch} : zx_FOK l vwCl zx_Ts zx_nw zx_sts zx_Yt zx_aos zx_PRt zx_rmt 8 zx_ft :=
  zx_run_ok zx_PKt zx_CKt zx_arrs zx_Ts_good zx_nw_kind (by intro d j hP y cc maxL ret rm _ _ G h as os hz; cases hz) 8
noncomputable def zx_SA : Option (List zx_Os) := zx_ex zx_Yt zx_dt zx_rmt zx_stp zx_mlaw zx_ft 400 zx_tlaw zx_G0 [] [(0, .inr (.inr false))] (0, 0) []
end
section
/-! zx: a run on some cells serves wherever such cells stand -/
theorem zx_room_le {s : State} {pl : Platform} {r r' : Room} (h : s.hasRoom pl r = true) (h1 : r'.frames ≤ r.frames) (h2 : r'.cells ≤ r.cells) (h3 : r'.slots ≤ r.slots) (h4 : r'.locals ≤ r.locals) : s.hasRoom pl r' = true := by
  unfold State.hasRoom at h ⊢
  simp only [Bool.and_eq_true, decide_eq_true_iff] at h ⊢
  obtain ⟨⟨⟨⟨a, b1, b2, b3, b4, b5⟩, c⟩, d⟩, e⟩ := h
  exact ⟨⟨⟨⟨by omega, by omega, by omega, by omega, by omega, b5⟩, by omega⟩, by omega⟩, e⟩
theorem zx_Met_imp {l : Launch} {y : MethodName} {ws : List Jvm.Cond} {R R' : Room} {P P' : Array Value → State → Prop} {Q Q' : Array Value → State → Outcome → State → Prop} {mc ms : Nat} {A A' : Nat → Prop} (hM : Met l y ws R P Q mc ms A) (hR : R.frames ≤ R'.frames ∧ R.cells ≤ R'.cells ∧ R.slots ≤ R'.slots ∧ R.locals ≤ R'.locals) (hP : ∀ a st, P' a st → P a st ∧ ∀ q, A q → A' q) (hQ : ∀ a st o t, P' a st → Q a st o t → st.WarmedH t.vm → Q' a st o t) : Met l y ws R' P' Q' mc ms A' := by
  intro p e hadm hf1 hf2 s m args below hfr happ hp _
  obtain ⟨hp0, hA⟩ := hP args s hp
  have happ' : (headSpec ws R).appliesLoose y e.platform s = true := by
    rw [Spec.appliesLoose_iff hfr] at happ ⊢
    obtain ⟨a1, a2, a3, a4, a5, a6, a7, a8⟩ := happ
    exact ⟨a1, a2, a3, a4, a5, a6, zx_room_le a7 hR.1 hR.2.1 hR.2.2.1 hR.2.2.2, a8⟩
  obtain ⟨n, o, h1, h2, h3, h4, L, h5, h6⟩ := hM p e hadm hf1 hf2 s m args below hfr happ' hp0 trivial
  exact ⟨n, o, h1, h2, h3, hQ _ _ _ _ hp h4 h5.2.1, L, h5, fun q hq => hA _ (h6 q hq)⟩
theorem zx_FJ_mono {l : Launch} {cl : List vw_C} {Ts nw : List Jvm.Cond} {sts : List (String × String × String × Nat)} {Y : zx_Y} {aos : List String} {PR : zx_PR} {rmt : List (Nat × Nat)} {d d' : Nat} {f : zx_Fn} {j : Nat} (h : zx_FJ l cl Ts nw sts Y aos PR rmt d f j) (hd : d ≤ d') : zx_FJ l cl Ts nw sts Y aos PR rmt d' f j :=
  fun y cc maxL ret rm h1 h2 G hp as os h3 D A b ex ρ tys ws sz av h4 h5 h6 h7 => zx_Met_imp (h y cc maxL ret rm h1 h2 G hp as os h3 D A b ex ρ tys ws sz av h4 h5 h6 h7) ⟨hd, Nat.le_refl _, Nat.le_refl _, Nat.mul_le_mul_left _ hd⟩ (fun _ _ h => ⟨h, fun _ q => q⟩) (fun _ _ _ _ _ h _ => h)
/-! what is known of the cells says all that the smaller run wants -/
def zy_mI (n o : Nat) : List Nat → List Nat → Bool
  | [], [] => true
  | i :: r, j :: t => (if i < 64 then Nat.beq i j else Nat.blt i (64 + n) && Nat.beq (i + o) j) && zy_mI n o r t
  | [], _ :: _ => false
  | _ :: _, [] => false
def zy_mV (n o : Nat) (G : zx_G) (v0 v : zx_V) : Bool := match v0, v with
  | .inl e0, .inl e => zx_isc e0 && (match zx_rng G e with
    | some t => decide (e0.2 ≤ t.1) && decide (t.2 ≤ e0.2)
    | none => false)
  | .inr (.inl r0), .inr (.inl r) => (r0.2 || !r.2) && zy_mI n o r0.1 r.1
  | .inr (.inr true), .inr (.inr true) => true
  | _, _ => false
def zy_mS (n o : Nat) (G : zx_G) (t0 t : zx_S) : Bool := match t0, t with
  | .inl v0, .inl v => zy_mV n o G v0 v
  | .inr q0, .inr q => decide (q0.1 ≤ q.1) && decide (q.2 ≤ q0.2)
  | .inr q0, .inl (.inl e) => (match zx_rng G e with
    | some t => decide (q0.1 ≤ t.1) && decide (t.2 ≤ q0.2)
    | none => false)
  | _, _ => false
def zy_mL (n o : Nat) (G : zx_G) : List zx_S → List zx_S → Bool
  | [], [] => true
  | a :: r, b :: t => zy_mS n o G a b && zy_mL n o G r t
  | [], _ :: _ => false
  | _ :: _, [] => false
def zy_mC (n o : Nat) (G : zx_G) (c0 c : zx_C) : Bool := match c0, c with
  | .inl a, .inl b => Nat.beq a.1 b.1 && zy_mL n o G a.2 b.2
  | .inr (.inl a), .inr (.inl b) => Nat.beq a.1 b.1 && (Nat.beq a.2.1 b.2.1 && ((a.2.2.1 == b.2.2.1) && zy_mL n o G a.2.2.2 b.2.2.2))
  | .inr (.inr a), .inr (.inr b) => Nat.beq a b
  | _, _ => false
def zy_mH (n o : Nat) (G : zx_G) : List zx_C → List zx_C → Bool
  | [], _ => true
  | a :: r, b :: t => zy_mC n o G a b && zy_mH n o G r t
  | _ :: _, [] => false
def zy_mA (n o : Nat) (G : zx_G) : List zx_V → List zx_V → Bool
  | [], [] => true
  | a :: r, b :: t => zy_mV n o G a b && zy_mA n o G r t
  | [], _ :: _ => false
  | _ :: _, [] => false
section ZXM
variable {cl : List vw_C} {b : Nat} {ex : List Nat} {ρ : List Int} {ad ad0 : List Nat} {G : zx_G} {n o : Nat}
theorem zy_mI_ok : ∀ {r0 r : List Nat} {j : Nat}, zy_mI n o r0 r = true → j ∈ r → ∃ i ∈ r0, (i < 64 ∧ i = j) ∨ (¬ i < 64 ∧ i < 64 + n ∧ i + o = j)
  | [], [], _, _, hj => nomatch hj
  | i :: r0, k :: r, j, h, hj => by
    rw [zy_mI, Bool.and_eq_true] at h
    rcases List.mem_cons.mp hj with e | e
    · subst e
      refine ⟨i, List.mem_cons_self, ?_⟩
      have h1 := h.1
      split at h1
      · exact Or.inl ⟨by assumption, Nat.eq_of_beq_eq_true h1⟩
      · rw [Bool.and_eq_true] at h1
        exact Or.inr ⟨by assumption, by have := h1.1; rw [Nat.blt_eq] at this; exact this, Nat.eq_of_beq_eq_true h1.2⟩
    · obtain ⟨i', g1, g2⟩ := zy_mI_ok h.2 e
      exact ⟨i', List.mem_cons_of_mem _ g1, g2⟩
  | [], _ :: _, _, h, _ => nomatch h
  | _ :: _, [], _, h, _ => nomatch h
theorem zy_mV_ok (hG : zx_ok ρ G) (had : ∀ i, i < n → ad0[i]? = ad[i + o]?) {v0 v : zx_V} {x : Value} (h : zy_mV n o G v0 v = true) (hx : zx_R b ex ρ ad v x) : zx_R b ex [] ad0 v0 x := by
  unfold zy_mV at h
  split at h
  · rename_i e0 e
    rw [Bool.and_eq_true] at h
    obtain ⟨w, rfl, hw⟩ := hx
    refine ⟨w, rfl, ?_⟩
    have h2 := h.2
    split at h2
    · rename_i t ht
      rw [Bool.and_eq_true, decide_eq_true_iff, decide_eq_true_iff] at h2
      obtain ⟨k1, k2⟩ := zx_rng_ok hG ht hw
      have h1 := h.1
      unfold zx_isc at h1
      split at h1
      · rename_i he
        refine zx_ev_iff.mpr ⟨0, by rw [he]; rfl, by omega⟩
      · cases h1
    · cases h2
  · rename_i r0 r
    rw [Bool.and_eq_true] at h
    rcases hx with ⟨h1, rfl⟩ | ⟨j, a, h1, h2, rfl⟩
    · refine Or.inl ⟨?_, rfl⟩
      have h3 := h.1
      rw [h1] at h3
      simpa using h3
    · obtain ⟨i, g1, g2⟩ := zy_mI_ok h.2 h1
      refine Or.inr ⟨i, a, g1, ?_, rfl⟩
      rw [zx_ad] at h2 ⊢
      rcases g2 with ⟨g2, rfl⟩ | ⟨g2, g3, rfl⟩
      · rw [if_pos g2] at h2 ⊢; exact h2
      · rw [if_neg (by omega)] at h2
        rw [if_neg g2, had _ (by omega)]
        rw [← h2]; congr 1; omega
  · exact hx
  · cases h
theorem zy_mS_ok (hG : zx_ok ρ G) (had : ∀ i, i < n → ad0[i]? = ad[i + o]?) {t0 t : zx_S} {x : Value} (h : zy_mS n o G t0 t = true) (hx : zx_RS b ex ρ ad t x) : zx_RS b ex [] ad0 t0 x := by
  unfold zy_mS at h
  split at h
  · exact zy_mV_ok hG had h hx
  · rw [Bool.and_eq_true, decide_eq_true_iff, decide_eq_true_iff] at h
    obtain ⟨w, h1, h2, h3⟩ := hx
    exact ⟨w, h1, by omega, by omega⟩
  · split at h
    · rename_i e t ht
      rw [Bool.and_eq_true, decide_eq_true_iff, decide_eq_true_iff] at h
      obtain ⟨w, h1, h2⟩ := hx
      obtain ⟨k1, k2⟩ := zx_rng_ok hG ht h2
      exact ⟨w, h1, by omega, by omega⟩
    · cases h
  · cases h
theorem zy_mL_F2 (hG : zx_ok ρ G) (had : ∀ i, i < n → ad0[i]? = ad[i + o]?) : ∀ {l0 l : List zx_S} {xs : List Value}, zy_mL n o G l0 l = true → zx_F2 (zx_RS b ex ρ ad) l xs → zx_F2 (zx_RS b ex [] ad0) l0 xs
  | [], [], [], _, _ => trivial
  | [], [], _ :: _, _, h => h.elim
  | a :: r, c :: t, x :: m, h, hx => by
    rw [zy_mL, Bool.and_eq_true] at h
    exact ⟨zy_mS_ok hG had h.1 hx.1, zy_mL_F2 hG had h.2 hx.2⟩
  | _ :: _, _ :: _, [], _, hx => hx.elim
  | [], _ :: _, _, h, _ => nomatch h
  | _ :: _, [], _, h, _ => nomatch h
theorem zy_mL_get : ∀ {l0 l : List zx_S}, zy_mL n o G l0 l = true → l0.length = l.length ∧ ∀ (j : Nat) (t0 : zx_S), l0[j]? = some t0 → ∃ t, l[j]? = some t ∧ zy_mS n o G t0 t = true
  | [], [], _ => ⟨rfl, fun j t0 h => by simp at h⟩
  | a :: r, c :: t, h => by
    rw [zy_mL, Bool.and_eq_true] at h
    obtain ⟨g1, g2⟩ := zy_mL_get h.2
    refine ⟨by rw [List.length_cons, List.length_cons, g1], fun j t0 hj => ?_⟩
    cases j with
    | zero => cases hj; exact ⟨c, rfl, h.1⟩
    | succ j => obtain ⟨t', k1, k2⟩ := g2 j t0 (by simpa using hj); exact ⟨t', by simpa using k1, k2⟩
  | [], _ :: _, h => nomatch h
  | _ :: _, [], h => nomatch h
theorem zy_mL_RA (hG : zx_ok ρ G) (had : ∀ i, i < n → ad0[i]? = ad[i + o]?) {k : Nat} {sm : Bool} {l0 l : List zx_S} {el : Nat → Value} (h : zy_mL n o G l0 l = true) (hx : zx_RA b ex ρ ad k sm l el) : zx_RA b ex [] ad0 k sm l0 el := by
  cases sm with
  | true =>
    obtain ⟨t, rfl, h2⟩ := hx
    cases l0 with
    | nil => cases h
    | cons a r =>
      rw [zy_mL, Bool.and_eq_true] at h
      cases r with
      | nil => exact ⟨a, rfl, fun j hj => zy_mS_ok hG had h.1 (h2 j hj)⟩
      | cons _ _ => cases h.2
  | false =>
    obtain ⟨g1, g2⟩ := zy_mL_get h
    refine ⟨by rw [g1]; exact hx.1, fun j t0 hj => ?_⟩
    obtain ⟨t, k1, k2⟩ := g2 j t0 hj
    exact zy_mS_ok hG had k2 (hx.2 j t k1)
theorem zy_mC_ok (hG : zx_ok ρ G) (had : ∀ i, i < n → ad0[i]? = ad[i + o]?) {tys : List (ClassId × FieldType)} {c0 c : zx_C} {e : va_E} (h : zy_mC n o G c0 c = true) (hx : zx_RC cl b ex ρ ad tys c e) : zx_RC cl b ex [] ad0 tys c0 e := by
  unfold zy_mC at h
  split at h
  · rename_i a c'
    rw [Bool.and_eq_true] at h
    obtain ⟨fs, h1, h2⟩ := hx
    exact ⟨fs, by rw [h1, Nat.eq_of_beq_eq_true h.1], zy_mL_F2 hG had h.2 h2⟩
  · rename_i a c'
    obtain ⟨a1, a2, a3, a4⟩ := a
    obtain ⟨c1, c2, c3, c4⟩ := c'
    simp only [Bool.and_eq_true, beq_iff_eq] at h
    obtain ⟨h1, h2, h3, h4⟩ := h
    cases Nat.eq_of_beq_eq_true h1
    cases Nat.eq_of_beq_eq_true h2
    cases h3
    obtain ⟨cA, t0, g1, g2⟩ := hx
    refine ⟨cA, t0, g1, ?_⟩
    rcases g2 with ⟨g2, f, g3, g4⟩ | ⟨g2, f, g3, g4⟩
    · exact Or.inl ⟨g2, f, g3, zy_mL_RA hG had h4 g4⟩
    · exact Or.inr ⟨g2, f, g3, zy_mL_RA hG had h4 g4⟩
  · cases Nat.eq_of_beq_eq_true h
    exact hx
  · cases h
theorem zy_mH_ok (hG : zx_ok ρ G) (had : ∀ i, i < n → ad0[i]? = ad[i + o]?) {tys : List (ClassId × FieldType)} : ∀ {h0 h : List zx_C} {ws : va_W}, zy_mH n o G h0 h = true → zx_F2 (fun c q => zx_RC cl b ex ρ ad tys c q.2) h ws → zx_F2 (fun c q => zx_RC cl b ex [] ad0 tys c q.2) h0 (ws.take h0.length)
  | [], _, _, _, _ => by rw [List.length_nil, List.take_zero]; trivial
  | a :: r, c :: t, q :: m, h, hx => by
    rw [zy_mH, Bool.and_eq_true] at h
    exact ⟨zy_mC_ok hG had h.1 hx.1, zy_mH_ok hG had h.2 hx.2⟩
  | _ :: _, _ :: _, [], _, hx => hx.elim
  | _ :: _, [], _, h, _ => nomatch h
theorem zy_mA_ok (hG : zx_ok ρ G) (had : ∀ i, i < n → ad0[i]? = ad[i + o]?) : ∀ {l0 l : List zx_V} {xs : List Value}, zy_mA n o G l0 l = true → zx_F2 (zx_R b ex ρ ad) l xs → zx_F2 (zx_R b ex [] ad0) l0 xs
  | [], [], [], _, _ => trivial
  | [], [], _ :: _, _, h => h.elim
  | a :: r, c :: t, x :: m, h, hx => by
    rw [zy_mA, Bool.and_eq_true] at h
    exact ⟨zy_mV_ok hG had h.1 hx.1, zy_mA_ok hG had h.2 hx.2⟩
  | _ :: _, _ :: _, [], _, hx => hx.elim
  | [], _ :: _, _, h, _ => nomatch h
  | _ :: _, [], _, h, _ => nomatch h
end ZXM
/-! back to where the cells stand -/
def zx_bI (o : Nat) : List Nat → List Nat
  | [] => []
  | i :: r => (if i < 64 then i else i + o) :: zx_bI o r
def zx_bV (o : Nat) (v : zx_V) : zx_V := match v with
  | .inr (.inl r) => .inr (.inl (zx_bI o r.1, r.2))
  | .inl e => .inl e
  | .inr (.inr k) => .inr (.inr k)
def zx_bS (o : Nat) (t : zx_S) : zx_S := match t with
  | .inl v => .inl (zx_bV o v)
  | .inr q => .inr q
def zx_bC (o : Nat) (c : zx_C) : zx_C := match c with
  | .inl a => .inl (a.1, a.2.map (zx_bS o))
  | .inr (.inl a) => .inr (.inl (a.1, a.2.1, a.2.2.1, a.2.2.2.map (zx_bS o)))
  | .inr (.inr k) => .inr (.inr k)
section ZXN
variable {cl : List vw_C} {b : Nat} {ex : List Nat} {ρ : List Int} {ad ad0 : List Nat} {o : Nat}
theorem zx_bI_mem {i : Nat} : ∀ {r : List Nat}, i ∈ r → (if i < 64 then i else i + o) ∈ zx_bI o r
  | [], h => nomatch h
  | k :: r, h => by
    rw [zx_bI]
    rcases List.mem_cons.mp h with e | e
    · subst e; exact List.mem_cons_self
    · exact List.mem_cons_of_mem _ (zx_bI_mem e)
theorem zx_bV_ok (had : ∀ (i : Nat) (a : Nat), ad0[i]? = some a → ad[i + o]? = some a) {v : zx_V} {x : Value} (hx : zx_R b ex [] ad0 v x) : zx_R b ex ρ ad (zx_bV o v) x := by
  rcases v with e | r | k
  · obtain ⟨w, h1, h2⟩ := hx
    exact ⟨w, h1, by have := zx_ev_app (r := ρ) h2; rwa [List.nil_append] at this⟩
  · rcases hx with h | ⟨i, a, h1, h2, h3⟩
    · exact Or.inl h
    · refine Or.inr ⟨_, a, zx_bI_mem (o := o) h1, ?_, h3⟩
      rw [zx_ad] at h2 ⊢
      by_cases hi : i < 64
      · rw [if_pos hi] at h2
        simp only [if_pos hi]
        exact h2
      · rw [if_neg hi] at h2
        simp only [if_neg hi]
        rw [if_neg (by omega)]
        have := had _ _ h2
        rw [← this]; congr 1; omega
  · cases k
    · exact hx
    · exact hx
theorem zx_bS_ok (had : ∀ (i : Nat) (a : Nat), ad0[i]? = some a → ad[i + o]? = some a) {t : zx_S} {x : Value} (hx : zx_RS b ex [] ad0 t x) : zx_RS b ex ρ ad (zx_bS o t) x := by
  rcases t with v | q
  · exact zx_bV_ok (v := v) had hx
  · exact hx
theorem zx_F2_map {α α' β : Type} {R : α → β → Prop} {S : α' → β → Prop} {f : α → α'} (hf : ∀ a b, R a b → S (f a) b) : ∀ {l : List α} {m : List β}, zx_F2 R l m → zx_F2 S (l.map f) m
  | [], [], _ => trivial
  | _ :: _, _ :: _, h => ⟨hf _ _ h.1, zx_F2_map hf h.2⟩
  | [], _ :: _, h => h.elim
  | _ :: _, [], h => h.elim
theorem zx_bRA_ok (had : ∀ (i : Nat) (a : Nat), ad0[i]? = some a → ad[i + o]? = some a) {k : Nat} {sm : Bool} {l : List zx_S} {el : Nat → Value} (hx : zx_RA b ex [] ad0 k sm l el) : zx_RA b ex ρ ad k sm (l.map (zx_bS o)) el := by
  cases sm with
  | true =>
    obtain ⟨t, rfl, h2⟩ := hx
    exact ⟨_, rfl, fun j hj => zx_bS_ok had (h2 j hj)⟩
  | false =>
    refine ⟨by rw [List.length_map]; exact hx.1, fun j t hj => ?_⟩
    rw [List.getElem?_map] at hj
    obtain ⟨t', h1, rfl⟩ := Option.map_eq_some_iff.mp hj
    exact zx_bS_ok had (hx.2 j t' h1)
theorem zx_bC_ok (had : ∀ (i : Nat) (a : Nat), ad0[i]? = some a → ad[i + o]? = some a) {tys tys' : List (ClassId × FieldType)} (ht : ∀ (i : Nat) (q : ClassId × FieldType), tys[i]? = some q → ∃ k : Nat, tys'[k]? = some q) {c : zx_C} {e : va_E} (hx : zx_RC cl b ex [] ad0 tys c e) : zx_RC cl b ex ρ ad tys' (zx_bC o c) e := by
  rcases c with a | q | k
  · obtain ⟨fs, h1, h2⟩ := hx
    exact ⟨fs, h1, zx_F2_map (R := zx_RS b ex [] ad0) (S := zx_RS b ex ρ ad) (f := zx_bS o) (fun _ _ hq => zx_bS_ok had hq) h2⟩
  · obtain ⟨cA, t0, h1, h2⟩ := hx
    obtain ⟨t1, h1⟩ := ht _ _ h1
    refine ⟨cA, t1, h1, ?_⟩
    rcases h2 with ⟨h2, f, h3, h4⟩ | ⟨h2, f, h3, h4⟩
    · exact Or.inl ⟨h2, f, h3, zx_bRA_ok had h4⟩
    · exact Or.inr ⟨h2, f, h3, zx_bRA_ok had h4⟩
  · obtain ⟨cA, t0, f, h1, h2⟩ := hx
    obtain ⟨t1, h1⟩ := ht _ _ h1
    exact ⟨cA, t1, f, h1, h2⟩
end ZXN
/-- the cells apart, by their addresses alone -/
theorem zx_D_as {A : Nat → Prop} {ws ws' : va_W} (h : va_D A ws) (he : zx_as ws' = zx_as ws) : va_D A ws' := by
  have key : ∀ (i : Nat) (p : Nat × va_E), ws'[i]? = some p → ∃ p', ws[i]? = some p' ∧ p'.1 = p.1 := by
    intro i p hp
    have h1 : (zx_as ws')[i]? = some p.1 := by rw [zx_as, List.getElem?_map, hp]; rfl
    rw [he, zx_as, List.getElem?_map] at h1
    obtain ⟨p', h2, h3⟩ := Option.map_eq_some_iff.mp h1
    exact ⟨p', h2, h3⟩
  refine ⟨fun i j p q hp hq hpq => ?_, fun k q hq => ?_⟩
  · obtain ⟨p', h1, h2⟩ := key i p hp
    obtain ⟨q', h3, h4⟩ := key j q hq
    exact h.1 i j p' q' h1 h3 (by rw [h2, h4, hpq])
  · obtain ⟨q', h1, h2⟩ := key k q hq
    rw [← h2]; exact h.2 k q' h1
theorem zx_CX_narrow {ex : List Nat} {A B : Nat → Prop} {U : State} {H : Heap} {sts : List (String × String × String × Nat)} {Y : zx_Y} (h : zx_CX ex A U H sts Y) (hAB : ∀ q, B q → A q) : zx_CX ex B U H sts Y :=
  ⟨fun q hq => by obtain ⟨a, h1, h2⟩ := h.1 q hq; exact ⟨a, h1, h2.narrow hAB⟩, fun q hq => by obtain ⟨a, h0, h1, h2, h3⟩ := h.2 q hq; exact ⟨a, h0, h1, h2, h3.narrow hAB⟩⟩
/-- an entry: which method, its cells, its arguments; the cells behind it, the answer -/
abbrev zx_En : Type := Nat × (List zx_C × (List zx_V × (List zx_C × Option zx_V)))
section ZXP
variable {l : Launch} {cl : List vw_C} {Ts nw : List Jvm.Cond} {sts : List (String × String × String × Nat)} {Y : zx_Y} {aos : List String} {PR : zx_PR} {rmt : List (Nat × Nat)}
theorem zx_loc_ok {d j : Nat} {f : zx_Fn} {h0 h1 : List zx_C} {as0 : List zx_V} {r : Option zx_V} (hf : zx_FJ l cl Ts nw sts Y aos PR rmt d f j) (hrun : f j [] h0 as0 = some [([], h1, r)]) (hlen : h1.length = h0.length) {o : Nat} {G : zx_G} {h : List zx_C} {as : List zx_V} (hH : zy_mH h0.length o G h0 (h.drop o) = true) (hAs : zy_mA h0.length o G as0 as = true)
    {y : MethodName} {cc : ByteArray} {maxL : Nat} {ret : Option FieldType} {rm : Nat × Nat} (hPR : PR[j]? = some (y, cc, maxL, ret)) (hrm : rmt[j]? = some rm) {D : va_G} {A : Nat → Prop} {b : Nat} {ex : List Nat} {ρ : List Int} {tys : List (ClassId × FieldType)} {ws : va_W} {sz : Nat} {av : List Value} (hG : zx_ok ρ G) (hh : zx_F2 (fun c q => zx_RC cl b ex ρ (zx_as ws) tys c q.2) h ws) (ha : zx_F2 (zx_R b ex ρ (zx_as ws)) as av) (hsz : ∀ q, sz ≤ q → A q) :
    Met l y (Jvm.Cond.code y cc maxL ret :: Ts) ({ frames := d, cells := rm.1, slots := rm.2, locals := 100 * d }) (zx_Pc D cl A ex sts Y nw aos tys ws sz av) (zx_Qc D cl A b ex ρ ws [(G, h.take o ++ (h1.map (zx_bC o) ++ h.drop (o + h0.length)), r.map (zx_bV o))]) rm.1 rm.2 A := by
  have hG0 : zx_ok [] [] := ⟨rfl, fun i v b h => by simp at h⟩
  have had : ∀ i, i < h0.length → (zx_as ((ws.drop o).take h0.length))[i]? = (zx_as ws)[i + o]? := by
    intro i hi
    rw [zx_as, zx_as, List.getElem?_map, List.getElem?_map, List.getElem?_take, if_pos hi, List.getElem?_drop, Nat.add_comm]
  have hdr := (zx_F2_take o hh).2
  have hh0 := zy_mH_ok hG had hH hdr
  have ha0 := zy_mA_ok hG had hAs ha
  have hl0 : ((ws.drop o).take h0.length).length = h0.length := (zx_F2_len hh0).symm
  have hcut : ws = ws.take o ++ ((ws.drop o).take h0.length ++ ws.drop (o + h0.length)) := by
    rw [← List.drop_drop, List.take_append_drop, List.take_append_drop]
  have key0 : ∀ (k : Nat) (q : Nat × va_E), ((ws.drop o).take h0.length)[k]? = some q → ws[k + o]? = some q ∧ k < h0.length := by
    intro k q hk
    have hk' := (List.getElem?_eq_some_iff.mp hk).1
    rw [hl0] at hk'
    rw [List.getElem?_take, if_pos hk', List.getElem?_drop, Nat.add_comm] at hk
    exact ⟨hk, hk'⟩
  have M0 := hf y cc maxL ret rm hPR hrm [] h0 as0 _ hrun D (va_A ((ws.drop o).take h0.length) sz) b ex [] tys ((ws.drop o).take h0.length) sz av hG0 hh0 ha0 (fun q hq => Or.inr hq)
  generalize (ws.drop o).take h0.length = ws0 at had hh0 ha0 hl0 hcut key0 M0
  have hAA : va_D A ws → ∀ q, va_A ws0 sz q → A q := by
    rintro p5 q (⟨k, e, hk⟩ | hq)
    · exact p5.2 _ _ (key0 k _ hk).1
    · exact hsz q hq
  refine zx_Met_imp M0 ⟨Nat.le_refl _, Nat.le_refl _, Nat.le_refl _, Nat.le_refl _⟩ ?_ ?_
  · intro a st hp
    obtain ⟨p1, p2, p3, p4, p5, p6, p7, p8⟩ := hp
    refine ⟨⟨p1, p2, fun k q hk => p3 _ q (key0 k q hk).1, p4, ⟨fun i j p q hi hj hpq => ?_, fun k q hk => Or.inl ⟨k, q.2, hk⟩⟩, zx_CX_narrow p6 (hAA p5), p7, p8⟩, hAA p5⟩
    have := p5.1 _ _ p q (key0 i p hi).1 (key0 j q hj).1 hpq
    omega
  · intro a st oc t hp hq hW
    obtain ⟨p1, p2, p3, p4, p5, p6, p7, p8⟩ := hp
    obtain ⟨⟨o1, ho1, v, r2, tys', ws1, hv, g1, g2, g3, g4, ⟨xt, g5⟩, g6, g7⟩, gF⟩ := hq
    cases List.mem_singleton.mp ho1
    have hr2 : r2 = [] := by
      have := g1.1
      rw [List.nil_append] at this
      exact List.eq_nil_of_length_eq_zero this
    subst hr2
    have hw1 : ws1.length = ws0.length := by rw [← zx_F2_len g6, hlen, hl0]
    have hxt : xt = [] := by
      have := congrArg List.length g5
      rw [List.length_append, zx_as, zx_as, List.length_map, List.length_map] at this
      exact List.eq_nil_of_length_eq_zero (by omega)
    subst hxt
    rw [List.append_nil] at g5
    have has : zx_as (ws.take o ++ (ws1 ++ ws.drop (o + h0.length))) = zx_as ws := by
      have h2 := congrArg zx_as hcut
      rw [h2]
      simp only [zx_as, List.map_append]
      rw [show List.map Prod.fst ws1 = List.map Prod.fst ws0 from g5]
    have had1 : ∀ (i a : Nat), (zx_as ws1)[i]? = some a → (zx_as ws)[i + o]? = some a := by
      intro i a hi
      have h2 := (List.getElem?_eq_some_iff.mp hi).1
      rw [zx_as, List.length_map, hw1, hl0] at h2
      rw [← had i h2, ← g5]; exact hi
    have hup : ∀ (c : zx_C) (q : Nat × va_E), zx_RC cl b ex ρ (zx_as ws) tys c q.2 → zx_RC cl b ex (ρ ++ []) (zx_as ws) (tys ++ tys') c q.2 := fun c q hc => by
      have := zx_RC_app (r := []) (q := []) (ty := tys') hc
      rwa [List.append_nil (zx_as ws)] at this
    have htys : ∀ (i : Nat) (q : ClassId × FieldType), tys'[i]? = some q → ∃ k : Nat, (tys ++ tys')[k]? = some q := fun i q hi => ⟨tys.length + i, by rw [List.getElem?_append_right (by omega)]; rw [← hi]; congr 1; omega⟩
    refine ⟨⟨_, List.mem_singleton.mpr rfl, v, [], tys ++ tys', ws.take o ++ (ws1 ++ ws.drop (o + h0.length)), hv, by rw [List.append_nil]; exact hG, va_K.app (va_K.moved hW.alike p4) g2, ?_, zx_D_as p5 has, ⟨[], by rw [has, List.append_nil]⟩, ?_, ?_⟩, gF.1, fun q k1 k2 => gF.2 q k1 (fun k3 => k2 (hAA p5 q k3))⟩
    · have kept : ∀ (i : Nat) (q : Nat × va_E), ws[i]? = some q → (i < o ∨ o + h0.length ≤ i) → va_at D cl q t.heap := by
        intro i q hi hio
        have hlt := (p3 i q hi).lt
        refine (p3 i q hi).kept (gF.2 q.1 hlt ?_)
        rintro (⟨k, e, hk⟩ | hq)
        · have hk' := key0 k _ hk
          have := p5.1 i (k + o) q _ hi hk'.1 rfl
          omega
        · omega
      intro k q hk
      rcases List.mem_append.mp (List.mem_of_getElem? hk) with hm | hm
      · obtain ⟨i, hi⟩ := List.mem_iff_getElem?.mp hm
        rw [List.getElem?_take] at hi
        split at hi
        · exact kept i q hi (Or.inl (by assumption))
        · cases hi
      · rcases List.mem_append.mp hm with hm | hm
        · obtain ⟨i, hi⟩ := List.mem_iff_getElem?.mp hm
          exact g3 i q hi
        · obtain ⟨i, hi⟩ := List.mem_iff_getElem?.mp hm
          rw [List.getElem?_drop] at hi
          exact kept _ q hi (Or.inr (by omega))
    · rw [has]
      refine zx_F2_app (zx_F2_app (zx_F2_imp hup (zx_F2_take (o + h0.length) hh).2) ?_) (zx_F2_imp hup (zx_F2_take o hh).1)
      rw [List.append_nil]
      exact zx_F2_map (R := fun (c : zx_C) (q : Nat × va_E) => zx_RC cl b ex ([] ++ []) (zx_as ws1) tys' c q.2) (S := fun (c : zx_C) (q : Nat × va_E) => zx_RC cl b ex ρ (zx_as ws) (tys ++ tys') c q.2) (fun c q hc => zx_bC_ok had1 htys hc) g6
    · rw [has, List.append_nil]
      cases r with
      | none =>
        cases v with
        | none => exact trivial
        | some _ => exact g7.elim
      | some x =>
        cases v with
        | none => exact g7.elim
        | some xv => exact zx_bV_ok (v := x) had1 g7
def zx_mmE (j : Nat) (G : zx_G) (h : List zx_C) (as : List zx_V) (o : Nat) : List zx_En → Option (List zx_Ou)
  | [] => none
  | en :: t => if (Nat.beq en.1 j && (zy_mA en.2.1.length o G en.2.2.1 as && zy_mH en.2.1.length o G en.2.1 (h.drop o))) = true then some [(G, h.take o ++ (en.2.2.2.1.map (zx_bC o) ++ h.drop (o + en.2.1.length)), en.2.2.2.2.map (zx_bV o))] else zx_mmE j G h as o t
def zx_mm (E : List zx_En) : zx_Fn := fun j G h as => match as with
  | .inr (.inl ([id], false)) :: _ => if id < 64 then none else zx_mmE j G h as (id - 64) E
  | _ => none
def zx_EOK (l : Launch) (cl : List vw_C) (Ts nw : List Jvm.Cond) (sts : List (String × String × String × Nat)) (Y : zx_Y) (aos : List String) (PR : zx_PR) (rmt : List (Nat × Nat)) (d0 : Nat) (E : List zx_En) : Prop :=
  ∀ en ∈ E, ∃ (d : Nat) (f : zx_Fn), d ≤ d0 ∧ zx_FJ l cl Ts nw sts Y aos PR rmt d f en.1 ∧ f en.1 [] en.2.1 en.2.2.1 = some [([], en.2.2.2.1, en.2.2.2.2)] ∧ en.2.2.2.1.length = en.2.1.length
theorem zx_mm_ok {d0 : Nat} {E : List zx_En} (hE : zx_EOK l cl Ts nw sts Y aos PR rmt d0 E) {d : Nat} (hd : d0 ≤ d) (j : Nat) : zx_FJ l cl Ts nw sts Y aos PR rmt d (zx_mm E) j := by
  intro y cc maxL ret rm hPR hrm G h as os hz D A b ex ρ tys ws sz av hG hh ha hA
  have main : ∀ (o : Nat) (E' : List zx_En), (∀ en ∈ E', en ∈ E) → zx_mmE j G h as o E' = some os → Met l y (Jvm.Cond.code y cc maxL ret :: Ts) ({ frames := d, cells := rm.1, slots := rm.2, locals := 100 * d }) (zx_Pc D cl A ex sts Y nw aos tys ws sz av) (zx_Qc D cl A b ex ρ ws os) rm.1 rm.2 A := by
    intro o E'
    induction E' with
    | nil => intro _ hzz; cases hzz
    | cons en t ih =>
      intro hs hzz
      rw [zx_mmE] at hzz
      split at hzz
      · rename_i hc
        rw [Bool.and_eq_true, Bool.and_eq_true] at hc
        obtain ⟨c1, c3, c2⟩ := hc
        obtain ⟨d1, f, h1, h2, h3, h4⟩ := hE en (hs _ List.mem_cons_self)
        have hj := Nat.eq_of_beq_eq_true c1
        rw [hj] at h2 h3
        cases hzz
        exact zx_loc_ok (zx_FJ_mono h2 (Nat.le_trans h1 hd)) h3 h4 c2 c3 hPR hrm hG hh ha hA
      · exact ih (fun x hx => hs x (List.mem_cons_of_mem _ hx)) hzz
  unfold zx_mm at hz
  split at hz
  · split at hz
    · cases hz
    · exact main _ E (fun _ h => h) hz
  · cases hz
/-- what is kept comes first -/
noncomputable def zx_rm (Y : zx_Y) (dt : List (List Nat)) (rmt : List (Nat × Nat)) (P : List (Option zx_MD)) (xf : zx_Fn) (fuel d : Nat) : zx_Fn :=
  Nat.rec (motive := fun _ => zx_Fn) (fun _ _ _ _ => none) (fun _ ih j G h as => match xf j G h as with
    | some os => some os
    | none => zx_run1 Y dt rmt P (fun _ _ _ _ => none) (fun md => zx_ex Y dt rmt (fun _ => false) md ih fuel) j G h as) d
theorem zx_rm_s {dt : List (List Nat)} {P : List (Option zx_MD)} {xf : zx_Fn} {fuel d j : Nat} {G : zx_G} {h : List zx_C} {as : List zx_V} : zx_rm Y dt rmt P xf fuel (d + 1) j G h as = (match xf j G h as with
    | some os => some os
    | none => zx_run1 Y dt rmt P (fun _ _ _ _ => none) (fun md => zx_ex Y dt rmt (fun _ => false) md (zx_rm Y dt rmt P xf fuel d) fuel) j G h as) := rfl
theorem zx_run1_ok {dt : List (List Nat)} {P : List (Option zx_MD)} {fuel d : Nat} {f : zx_Fn} (hPK : zx_PK cl Ts nw sts aos PR rmt P) (hCK : zx_CK cl Ts dt) (harr : ∀ ty ∈ [FieldType.int, FieldType.byte, FieldType.boolean, FieldType.long], Jvm.Cond.arrayClass ty ∈ Ts) (hgw : Ts.all goodWord = true) (hnk : nw.all zx_nk = true) (ih : zx_FOK l cl Ts nw sts Y aos PR rmt d f) (j : Nat) : zx_FJ l cl Ts nw sts Y aos PR rmt (d + 1) (zx_run1 Y dt rmt P (fun _ _ _ _ => none) (fun md => zx_ex Y dt rmt (fun _ => false) md f fuel)) j := by
    intro y cc maxL ret rm hPR hrm G h as os hz D A b ex ρ tys ws sz av hG hh ha hA
    unfold zx_run1 at hz
    split at hz
    · rename_i md hP
      split at hz
      · rename_i hcats
        split at hz
        case h_2 => cases hz
        rename_i lo hlo
        obtain ⟨k1, k2, k3, k4, k5, k6, k7, k8, k9, x, nx, k10, k11⟩ := hPK j md y cc maxL ret rm hP hPR hrm
        refine Met.ofW (cc := cc) (maxL := maxL) (ret := ret) k1 rfl ?_
        intro p e s m args below meth c s₁ B hml hv
        obtain ⟨rfl, hsz, hP, hK, hD, hCX, hnw, hao⟩ := hv
        have hx := B.exec
        have hb := B.bytes
        have hr := B.returns
        have hts0 := atoms_spec (ws := Jvm.Cond.code y cc maxL ret :: Ts) B.pre
        have hts : ∀ w ∈ Ts, w.before av.toArray s = true := fun w hw => hts0 w (List.mem_cons_of_mem _ hw)
        have hown : s.vm.findClass y.cls = some m.cls := findClass_of_methodNamed B.named
        have hlocks := B.notSynchronized
        have hin : meth.name = y.name := (name_of_methodNamed B.named B.method).1
        have hA' : ∀ q, s.heap.size ≤ q → A q := fun q hq => hA q (by rw [← hsz]; exact hq)
        have F : zx_FX p s m av.toArray meth c ({ frames := d + 1, cells := rm.1, slots := rm.2, locals := 100 * (d + 1) } : Room) cc y.cls Ts nw cl A ex maxL sts Y aos dt md.2.1 :=
          ⟨hx, hb, hown, hts, hnw, hA', ⟨by rw [k2], by rw [k2]⟩, fun q => by rw [hin]; exact k5 q, k3, hCX, hao, hCK, k6⟩
        have hl := lv_entry av (n := maxL) (by rw [zx_words ha, ← k3]; exact hcats)
        rw [lg_entry_eq]
        generalize (lg_sl av ++ List.replicate (maxL - (lg_sl av).length) Slot.unset).toArray = ls at hl ⊢
        have J : zx_J D cl A b ex (zx_as ws) maxL s ρ G h (zx_args 0 as) [] s.heap [] ls [] :=
          ⟨hG, tys, ws, lv_args 0 av, hK, hP, hD, ⟨va_S.rf, [], by rw [List.append_nil]⟩, hh, zx_args_ok 0 ha, hl, trivial⟩
        rw [k10] at hlo
        have gol : W p l e ({ frames := d + 1, cells := rm.1, slots := rm.2, locals := 100 * (d + 1) } : Room) s m av.toArray below meth c s.heap [] 0 0 (MQ below (zx_Qc D cl A b ex ρ ws os) av.toArray s rm.1 rm.2 A) (F0 m x.1 ls []) → W p l e (headSpec (Jvm.Cond.code y cc maxL ret :: Ts) ({ frames := d + 1, cells := rm.1, slots := rm.2, locals := 100 * (d + 1) } : Room)).room s m av.toArray below meth c s.heap [] 0 0 (MQ below (zx_Qc D cl A b ex ρ ws os) av.toArray s rm.1 rm.2 A) (F0 m 0 ls []) := by
          intro g; rw [k11] at g; exact g
        refine gol ?_
        refine zx_ex_ok (xs := fun _ => 0) F harr ih k7 hgw hnk ⟨Nat.le_refl _, Nat.le_refl _⟩ hml k8 fuel x nx ρ G h (zx_args 0 as) (0, 0) [] lo s.heap [] ls [] (fun q => by rw [k4] at q; cases q) (fun y hy => by rw [k10]; exact hy) J hlo ⟨?_, fun q hq => by obtain ⟨o, h1, h2⟩ := zx_inls_mem hz _ hq; cases h2⟩
        intro o ho0 r2 H' locs' ls' kc' pc' k' ir tys' ws' g1 g2 g3 g4 g5 g6 g7 g8 g9 g10 g11
        rw [k2] at g8 g9
        have ho : o ∈ os := by obtain ⟨o', h1, h2⟩ := zx_inls_mem hz _ ho0; cases h2; exact h1
        refine W.widen (k := rm.1) (n := rm.2) g8 g9 ?_
        have fin : ∀ (v : Option Value), zx_rv b ex (ρ ++ r2) (zx_as ws') o.2.2 v → ∀ t : State, t.heap = H' → s.WarmedH t.vm → zx_Qc D cl A b ex ρ ws os av.toArray s (.returned v) t := by
          intro v hv t ht hW
          exact ⟨⟨o, ho, v, r2, tys', ws', rfl, g1, va_K.moved hW.alike g2, by rw [ht]; exact g3, g4, g6, g7, hv⟩, g5.F ht⟩
        rcases g11 with ⟨rfl, e1, rfl, e2⟩ | ⟨rfl, e1, w, e2, rfl, e3, e4⟩ | ⟨rfl, q, x1, e2, rfl, e3, e4⟩ | ⟨rfl, w, e2, rfl, e4⟩
        · have hrn : ret = none := by
            cases ret with
            | none => rfl
            | some ty => exact absurd e2 k9.2.1
          subst hrn
          exact W.vret hx hb hr (fin none (by rw [e1]; exact trivial)) g5.2.2 g10
        · cases ret with
          | none =>
            have k9 : md.2.2.2 = 4 := k9
            rw [k9] at e4
            exact (zx_fit4 e4).elim
          | some ty =>
            have hx1 : zx_R b ex (ρ ++ r2) (zx_as ws') (.inl e1) (.int w) := ⟨w, rfl, e3⟩
            have hn := (zx_fit_ok (ty := ty) g1 (by rw [k9.1]; exact e4) hx1).1
            exact W.zret hx hb hr hn (fin (some (.int w)) (by rw [e2]; exact hx1)) g5.2.2 g10
        · cases ret with
          | none =>
            have k9 : md.2.2.2 = 4 := k9
            rw [k9] at e4; cases e4
          | some ty =>
            have hty : (∃ n, ty = .object n) ∨ ∃ t, ty = .array t := by
              have h9 := k9.1
              rw [e4] at h9
              cases ty <;> first | exact Or.inl ⟨_, rfl⟩ | exact Or.inr ⟨_, rfl⟩ | cases h9
            have hvx : x1 = .null ∨ ∃ a, x1 = .ref a := by
              rcases e3 with ⟨-, h1⟩ | ⟨i, a, -, -, h1⟩
              · exact Or.inl h1
              · exact Or.inr ⟨a, h1⟩
            exact W.aret hx hb hr hty hvx (fin (some x1) (by rw [e2]; exact e3)) g5.2.2 g10
        · cases ret with
          | none =>
            have k9 : md.2.2.2 = 4 := k9
            rw [k9] at e4; cases e4
          | some ty =>
            have hty : ty = .long := by
              have h9 := k9.1
              rw [e4] at h9
              cases ty <;> first | rfl | cases h9
            subst hty
            exact W.lret hx hb hr (fin (some (.long w)) (by rw [e2]; exact ⟨w, rfl⟩)) g5.2.2 g10
      · cases hz
    · cases hz
    · cases hz
theorem zx_rm_ok {dt : List (List Nat)} {P : List (Option zx_MD)} {fuel d0 : Nat} {xf : zx_Fn} (hPK : zx_PK cl Ts nw sts aos PR rmt P) (hCK : zx_CK cl Ts dt) (harr : ∀ ty ∈ [FieldType.int, FieldType.byte, FieldType.boolean, FieldType.long], Jvm.Cond.arrayClass ty ∈ Ts) (hgw : Ts.all goodWord = true) (hnk : nw.all zx_nk = true) (hxf : ∀ d j : Nat, d0 ≤ d → zx_FJ l cl Ts nw sts Y aos PR rmt d xf j) : ∀ d : Nat, zx_FOK l cl Ts nw sts Y aos PR rmt (d0 + d) (zx_rm Y dt rmt P xf fuel d) := by
  intro d
  induction d with
  | zero =>
    intro j y cc maxL ret rm _ _ G h as os hz
    cases hz
  | succ d ih =>
    intro j y cc maxL ret rm hPR hrm G h as os hz
    rw [zx_rm_s] at hz
    split at hz
    · rename_i os' hos
      cases hz
      exact hxf (d0 + (d + 1)) j (by omega) y cc maxL ret rm hPR hrm G h as _ hos
    · exact zx_run1_ok (d := d0 + d) hPK hCK harr hgw hnk ih j y cc maxL ret rm hPR hrm G h as os hz
end ZXP
end
section
/-! zx: the law's state at each of its calls -/
def zx_hA : List zx_C := [.inl (10, [.inl (.inr (.inl ([65], false))), .inl (.inr (.inl ([66], false))), .inl (.inr (.inl ([67], false))), .inl (.inr (.inl ([234], false))), .inl (.inr (.inl ([242], false))), .inl (.inr (.inl ([259], false))), .inl (.inr (.inl ([262], false))), .inl (.inr (.inl ([268], false))), .inl (.inr (.inl ([274], false))), .inl (.inr (.inl ([276], false))), .inl (.inl ([], 0)), .inl (.inl ([], 0)), .inl (.inl ([], 0)), .inl (.inl ([], 0))]),
  .inr (.inl (0, 340, true, [.inr ((-2147483648), 2147483647)])),
  .inr (.inl (0, 4200, true, [.inr ((-2147483648), 2147483647)])),
  .inl (2, [.inl (.inl ([], 0)), .inl (.inl ([], 0)), .inl (.inl ([], 24)), .inl (.inl ([], 168)), .inl (.inr (.inl ([68], false))), .inl (.inr (.inl ([73], false))), .inl (.inr (.inl ([74], false))), .inl (.inr (.inl ([75], false))), .inl (.inr (.inl ([76], false))), .inl (.inr (.inl ([77], false))), .inl (.inr (.inl ([78], false))), .inl (.inr (.inl ([79], false)))]),
  .inl (1, [.inl (.inr (.inl ([69], false))), .inl (.inr (.inl ([70], false))), .inl (.inr (.inl ([71], false))), .inl (.inr (.inl ([72], false))), .inl (.inl ([], 0)), .inl (.inl ([], 0)), .inl (.inl ([], 0)), .inl (.inl ([], 0)), .inl (.inl ([], 0))]),
  .inr (.inl (0, 4, true, [.inr ((-2147483648), 2147483647)])),
  .inr (.inl (0, 8, true, [.inr ((-2147483648), 2147483647)])),
  .inr (.inl (0, 9, true, [.inr ((-2147483648), 2147483647)])),
  .inr (.inl (0, 80, true, [.inr ((-2147483648), 2147483647)])),
  .inr (.inl (9, 9, false, [.inl (.inr (.inl ([80], false))), .inl (.inr (.inl ([86], false))), .inl (.inr (.inl ([92], false))), .inl (.inr (.inl ([98], false))), .inl (.inr (.inl ([104], false))), .inl (.inr (.inl ([110], false))), .inl (.inr (.inl ([116], false))), .inl (.inr (.inl ([122], false))), .inl (.inr (.inl ([128], false)))])),
  .inr (.inl (4, 20, false, [.inl (.inr (.inl ([134], false))), .inl (.inr (.inl ([139], false))), .inl (.inr (.inl ([144], false))), .inl (.inr (.inl ([149], false))), .inl (.inr (.inl ([154], false))), .inl (.inr (.inl ([159], false))), .inl (.inr (.inl ([164], false))), .inl (.inr (.inl ([169], false))), .inl (.inr (.inl ([174], false))), .inl (.inr (.inl ([179], false))), .inl (.inr (.inl ([184], false))), .inl (.inr (.inl ([189], false))), .inl (.inr (.inl ([194], false))), .inl (.inr (.inl ([199], false))), .inl (.inr (.inl ([204], false))), .inl (.inr (.inl ([209], false))), .inl (.inr (.inl ([214], false))), .inl (.inr (.inl ([219], false))), .inl (.inr (.inl ([224], false))), .inl (.inr (.inl ([229], false)))])),
  .inr (.inl (0, 20, true, [.inr ((-2147483648), 2147483647)])),
  .inr (.inl (0, 20, true, [.inr ((-2147483648), 2147483647)])),
  .inr (.inl (0, 20, true, [.inr ((-2147483648), 2147483647)])),
  .inr (.inl (0, 4, true, [.inr ((-2147483648), 2147483647)])),
  .inr (.inl (0, 4, true, [.inr ((-2147483648), 2147483647)])),
  .inl (6, [.inl (.inl ([], 0)), .inl (.inl ([], 0)), .inl (.inl ([], 0)), .inl (.inl ([], 0)), .inl (.inl ([], 0)), .inl (.inr (.inl ([81], false))), .inl (.inr (.inl ([82], false))), .inl (.inr (.inl ([83], false))), .inl (.inr (.inl ([84], false))), .inl (.inr (.inl ([85], false)))]),
  .inr (.inl (0, 4, true, [.inr ((-2147483648), 2147483647)])),
  .inr (.inl (0, 8, true, [.inr ((-2147483648), 2147483647)])),
  .inr (.inl (0, 8, true, [.inr ((-2147483648), 2147483647)])),
  .inr (.inl (0, 8, true, [.inr ((-2147483648), 2147483647)])),
  .inr (.inl (0, 8, true, [.inr ((-2147483648), 2147483647)])),
  .inl (6, [.inl (.inl ([], 0)), .inl (.inl ([], 0)), .inl (.inl ([], 0)), .inl (.inl ([], 0)), .inl (.inl ([], 0)), .inl (.inr (.inl ([87], false))), .inl (.inr (.inl ([88], false))), .inl (.inr (.inl ([89], false))), .inl (.inr (.inl ([90], false))), .inl (.inr (.inl ([91], false)))]),
  .inr (.inl (0, 4, true, [.inr ((-2147483648), 2147483647)])),
  .inr (.inl (0, 8, true, [.inr ((-2147483648), 2147483647)])),
  .inr (.inl (0, 8, true, [.inr ((-2147483648), 2147483647)])),
  .inr (.inl (0, 8, true, [.inr ((-2147483648), 2147483647)])),
  .inr (.inl (0, 8, true, [.inr ((-2147483648), 2147483647)])),
  .inl (6, [.inl (.inl ([], 0)), .inl (.inl ([], 0)), .inl (.inl ([], 0)), .inl (.inl ([], 0)), .inl (.inl ([], 0)), .inl (.inr (.inl ([93], false))), .inl (.inr (.inl ([94], false))), .inl (.inr (.inl ([95], false))), .inl (.inr (.inl ([96], false))), .inl (.inr (.inl ([97], false)))]),
  .inr (.inl (0, 4, true, [.inr ((-2147483648), 2147483647)])),
  .inr (.inl (0, 8, true, [.inr ((-2147483648), 2147483647)])),
  .inr (.inl (0, 8, true, [.inr ((-2147483648), 2147483647)])),
  .inr (.inl (0, 8, true, [.inr ((-2147483648), 2147483647)])),
  .inr (.inl (0, 8, true, [.inr ((-2147483648), 2147483647)])),
  .inl (6, [.inl (.inl ([], 0)), .inl (.inl ([], 0)), .inl (.inl ([], 0)), .inl (.inl ([], 0)), .inl (.inl ([], 0)), .inl (.inr (.inl ([99], false))), .inl (.inr (.inl ([100], false))), .inl (.inr (.inl ([101], false))), .inl (.inr (.inl ([102], false))), .inl (.inr (.inl ([103], false)))]),
  .inr (.inl (0, 4, true, [.inr ((-2147483648), 2147483647)])),
  .inr (.inl (0, 8, true, [.inr ((-2147483648), 2147483647)])),
  .inr (.inl (0, 8, true, [.inr ((-2147483648), 2147483647)])),
  .inr (.inl (0, 8, true, [.inr ((-2147483648), 2147483647)])),
  .inr (.inl (0, 8, true, [.inr ((-2147483648), 2147483647)])),
  .inl (6, [.inl (.inl ([], 0)), .inl (.inl ([], 0)), .inl (.inl ([], 0)), .inl (.inl ([], 0)), .inl (.inl ([], 0)), .inl (.inr (.inl ([105], false))), .inl (.inr (.inl ([106], false))), .inl (.inr (.inl ([107], false))), .inl (.inr (.inl ([108], false))), .inl (.inr (.inl ([109], false)))]),
  .inr (.inl (0, 4, true, [.inr ((-2147483648), 2147483647)])),
  .inr (.inl (0, 8, true, [.inr ((-2147483648), 2147483647)])),
  .inr (.inl (0, 8, true, [.inr ((-2147483648), 2147483647)])),
  .inr (.inl (0, 8, true, [.inr ((-2147483648), 2147483647)])),
  .inr (.inl (0, 8, true, [.inr ((-2147483648), 2147483647)])),
  .inl (6, [.inl (.inl ([], 0)), .inl (.inl ([], 0)), .inl (.inl ([], 0)), .inl (.inl ([], 0)), .inl (.inl ([], 0)), .inl (.inr (.inl ([111], false))), .inl (.inr (.inl ([112], false))), .inl (.inr (.inl ([113], false))), .inl (.inr (.inl ([114], false))), .inl (.inr (.inl ([115], false)))]),
  .inr (.inl (0, 4, true, [.inr ((-2147483648), 2147483647)])),
  .inr (.inl (0, 8, true, [.inr ((-2147483648), 2147483647)])),
  .inr (.inl (0, 8, true, [.inr ((-2147483648), 2147483647)])),
  .inr (.inl (0, 8, true, [.inr ((-2147483648), 2147483647)])),
  .inr (.inl (0, 8, true, [.inr ((-2147483648), 2147483647)])),
  .inl (6, [.inl (.inl ([], 0)), .inl (.inl ([], 0)), .inl (.inl ([], 0)), .inl (.inl ([], 0)), .inl (.inl ([], 0)), .inl (.inr (.inl ([117], false))), .inl (.inr (.inl ([118], false))), .inl (.inr (.inl ([119], false))), .inl (.inr (.inl ([120], false))), .inl (.inr (.inl ([121], false)))]),
  .inr (.inl (0, 4, true, [.inr ((-2147483648), 2147483647)])),
  .inr (.inl (0, 8, true, [.inr ((-2147483648), 2147483647)])),
  .inr (.inl (0, 8, true, [.inr ((-2147483648), 2147483647)])),
  .inr (.inl (0, 8, true, [.inr ((-2147483648), 2147483647)])),
  .inr (.inl (0, 8, true, [.inr ((-2147483648), 2147483647)])),
  .inl (6, [.inl (.inl ([], 0)), .inl (.inl ([], 0)), .inl (.inl ([], 0)), .inl (.inl ([], 0)), .inl (.inl ([], 0)), .inl (.inr (.inl ([123], false))), .inl (.inr (.inl ([124], false))), .inl (.inr (.inl ([125], false))), .inl (.inr (.inl ([126], false))), .inl (.inr (.inl ([127], false)))]),
  .inr (.inl (0, 4, true, [.inr ((-2147483648), 2147483647)])),
  .inr (.inl (0, 8, true, [.inr ((-2147483648), 2147483647)])),
  .inr (.inl (0, 8, true, [.inr ((-2147483648), 2147483647)])),
  .inr (.inl (0, 8, true, [.inr ((-2147483648), 2147483647)])),
  .inr (.inl (0, 8, true, [.inr ((-2147483648), 2147483647)])),
  .inl (6, [.inl (.inl ([], 0)), .inl (.inl ([], 0)), .inl (.inl ([], 0)), .inl (.inl ([], 0)), .inl (.inl ([], 0)), .inl (.inr (.inl ([129], false))), .inl (.inr (.inl ([130], false))), .inl (.inr (.inl ([131], false))), .inl (.inr (.inl ([132], false))), .inl (.inr (.inl ([133], false)))]),
  .inr (.inl (0, 4, true, [.inr ((-2147483648), 2147483647)])),
  .inr (.inl (0, 8, true, [.inr ((-2147483648), 2147483647)])),
  .inr (.inl (0, 8, true, [.inr ((-2147483648), 2147483647)])),
  .inr (.inl (0, 8, true, [.inr ((-2147483648), 2147483647)])),
  .inr (.inl (0, 8, true, [.inr ((-2147483648), 2147483647)])),
  .inl (1, [.inl (.inr (.inl ([135], false))), .inl (.inr (.inl ([136], false))), .inl (.inr (.inl ([137], false))), .inl (.inr (.inl ([138], false))), .inl (.inl ([], 0)), .inl (.inl ([], 0)), .inl (.inl ([], 0)), .inl (.inl ([], 0)), .inl (.inl ([], 0))]),
  .inr (.inl (0, 4, true, [.inr ((-2147483648), 2147483647)])),
  .inr (.inl (0, 8, true, [.inr ((-2147483648), 2147483647)])),
  .inr (.inl (0, 9, true, [.inr ((-2147483648), 2147483647)])),
  .inr (.inl (0, 80, true, [.inr ((-2147483648), 2147483647)])),
  .inl (1, [.inl (.inr (.inl ([140], false))), .inl (.inr (.inl ([141], false))), .inl (.inr (.inl ([142], false))), .inl (.inr (.inl ([143], false))), .inl (.inl ([], 0)), .inl (.inl ([], 0)), .inl (.inl ([], 0)), .inl (.inl ([], 0)), .inl (.inl ([], 0))]),
  .inr (.inl (0, 4, true, [.inr ((-2147483648), 2147483647)])),
  .inr (.inl (0, 8, true, [.inr ((-2147483648), 2147483647)])),
  .inr (.inl (0, 9, true, [.inr ((-2147483648), 2147483647)])),
  .inr (.inl (0, 80, true, [.inr ((-2147483648), 2147483647)])),
  .inl (1, [.inl (.inr (.inl ([145], false))), .inl (.inr (.inl ([146], false))), .inl (.inr (.inl ([147], false))), .inl (.inr (.inl ([148], false))), .inl (.inl ([], 0)), .inl (.inl ([], 0)), .inl (.inl ([], 0)), .inl (.inl ([], 0)), .inl (.inl ([], 0))]),
  .inr (.inl (0, 4, true, [.inr ((-2147483648), 2147483647)])),
  .inr (.inl (0, 8, true, [.inr ((-2147483648), 2147483647)])),
  .inr (.inl (0, 9, true, [.inr ((-2147483648), 2147483647)])),
  .inr (.inl (0, 80, true, [.inr ((-2147483648), 2147483647)])),
  .inl (1, [.inl (.inr (.inl ([150], false))), .inl (.inr (.inl ([151], false))), .inl (.inr (.inl ([152], false))), .inl (.inr (.inl ([153], false))), .inl (.inl ([], 0)), .inl (.inl ([], 0)), .inl (.inl ([], 0)), .inl (.inl ([], 0)), .inl (.inl ([], 0))]),
  .inr (.inl (0, 4, true, [.inr ((-2147483648), 2147483647)])),
  .inr (.inl (0, 8, true, [.inr ((-2147483648), 2147483647)])),
  .inr (.inl (0, 9, true, [.inr ((-2147483648), 2147483647)])),
  .inr (.inl (0, 80, true, [.inr ((-2147483648), 2147483647)])),
  .inl (1, [.inl (.inr (.inl ([155], false))), .inl (.inr (.inl ([156], false))), .inl (.inr (.inl ([157], false))), .inl (.inr (.inl ([158], false))), .inl (.inl ([], 0)), .inl (.inl ([], 0)), .inl (.inl ([], 0)), .inl (.inl ([], 0)), .inl (.inl ([], 0))]),
  .inr (.inl (0, 4, true, [.inr ((-2147483648), 2147483647)])),
  .inr (.inl (0, 8, true, [.inr ((-2147483648), 2147483647)])),
  .inr (.inl (0, 9, true, [.inr ((-2147483648), 2147483647)])),
  .inr (.inl (0, 80, true, [.inr ((-2147483648), 2147483647)])),
  .inl (1, [.inl (.inr (.inl ([160], false))), .inl (.inr (.inl ([161], false))), .inl (.inr (.inl ([162], false))), .inl (.inr (.inl ([163], false))), .inl (.inl ([], 0)), .inl (.inl ([], 0)), .inl (.inl ([], 0)), .inl (.inl ([], 0)), .inl (.inl ([], 0))]),
  .inr (.inl (0, 4, true, [.inr ((-2147483648), 2147483647)])),
  .inr (.inl (0, 8, true, [.inr ((-2147483648), 2147483647)])),
  .inr (.inl (0, 9, true, [.inr ((-2147483648), 2147483647)])),
  .inr (.inl (0, 80, true, [.inr ((-2147483648), 2147483647)])),
  .inl (1, [.inl (.inr (.inl ([165], false))), .inl (.inr (.inl ([166], false))), .inl (.inr (.inl ([167], false))), .inl (.inr (.inl ([168], false))), .inl (.inl ([], 0)), .inl (.inl ([], 0)), .inl (.inl ([], 0)), .inl (.inl ([], 0)), .inl (.inl ([], 0))]),
  .inr (.inl (0, 4, true, [.inr ((-2147483648), 2147483647)])),
  .inr (.inl (0, 8, true, [.inr ((-2147483648), 2147483647)])),
  .inr (.inl (0, 9, true, [.inr ((-2147483648), 2147483647)])),
  .inr (.inl (0, 80, true, [.inr ((-2147483648), 2147483647)])),
  .inl (1, [.inl (.inr (.inl ([170], false))), .inl (.inr (.inl ([171], false))), .inl (.inr (.inl ([172], false))), .inl (.inr (.inl ([173], false))), .inl (.inl ([], 0)), .inl (.inl ([], 0)), .inl (.inl ([], 0)), .inl (.inl ([], 0)), .inl (.inl ([], 0))]),
  .inr (.inl (0, 4, true, [.inr ((-2147483648), 2147483647)])),
  .inr (.inl (0, 8, true, [.inr ((-2147483648), 2147483647)])),
  .inr (.inl (0, 9, true, [.inr ((-2147483648), 2147483647)])),
  .inr (.inl (0, 80, true, [.inr ((-2147483648), 2147483647)])),
  .inl (1, [.inl (.inr (.inl ([175], false))), .inl (.inr (.inl ([176], false))), .inl (.inr (.inl ([177], false))), .inl (.inr (.inl ([178], false))), .inl (.inl ([], 0)), .inl (.inl ([], 0)), .inl (.inl ([], 0)), .inl (.inl ([], 0)), .inl (.inl ([], 0))]),
  .inr (.inl (0, 4, true, [.inr ((-2147483648), 2147483647)])),
  .inr (.inl (0, 8, true, [.inr ((-2147483648), 2147483647)])),
  .inr (.inl (0, 9, true, [.inr ((-2147483648), 2147483647)])),
  .inr (.inl (0, 80, true, [.inr ((-2147483648), 2147483647)])),
  .inl (1, [.inl (.inr (.inl ([180], false))), .inl (.inr (.inl ([181], false))), .inl (.inr (.inl ([182], false))), .inl (.inr (.inl ([183], false))), .inl (.inl ([], 0)), .inl (.inl ([], 0)), .inl (.inl ([], 0)), .inl (.inl ([], 0)), .inl (.inl ([], 0))]),
  .inr (.inl (0, 4, true, [.inr ((-2147483648), 2147483647)])),
  .inr (.inl (0, 8, true, [.inr ((-2147483648), 2147483647)])),
  .inr (.inl (0, 9, true, [.inr ((-2147483648), 2147483647)])),
  .inr (.inl (0, 80, true, [.inr ((-2147483648), 2147483647)])),
  .inl (1, [.inl (.inr (.inl ([185], false))), .inl (.inr (.inl ([186], false))), .inl (.inr (.inl ([187], false))), .inl (.inr (.inl ([188], false))), .inl (.inl ([], 0)), .inl (.inl ([], 0)), .inl (.inl ([], 0)), .inl (.inl ([], 0)), .inl (.inl ([], 0))]),
  .inr (.inl (0, 4, true, [.inr ((-2147483648), 2147483647)])),
  .inr (.inl (0, 8, true, [.inr ((-2147483648), 2147483647)])),
  .inr (.inl (0, 9, true, [.inr ((-2147483648), 2147483647)])),
  .inr (.inl (0, 80, true, [.inr ((-2147483648), 2147483647)])),
  .inl (1, [.inl (.inr (.inl ([190], false))), .inl (.inr (.inl ([191], false))), .inl (.inr (.inl ([192], false))), .inl (.inr (.inl ([193], false))), .inl (.inl ([], 0)), .inl (.inl ([], 0)), .inl (.inl ([], 0)), .inl (.inl ([], 0)), .inl (.inl ([], 0))]),
  .inr (.inl (0, 4, true, [.inr ((-2147483648), 2147483647)])),
  .inr (.inl (0, 8, true, [.inr ((-2147483648), 2147483647)])),
  .inr (.inl (0, 9, true, [.inr ((-2147483648), 2147483647)])),
  .inr (.inl (0, 80, true, [.inr ((-2147483648), 2147483647)])),
  .inl (1, [.inl (.inr (.inl ([195], false))), .inl (.inr (.inl ([196], false))), .inl (.inr (.inl ([197], false))), .inl (.inr (.inl ([198], false))), .inl (.inl ([], 0)), .inl (.inl ([], 0)), .inl (.inl ([], 0)), .inl (.inl ([], 0)), .inl (.inl ([], 0))]),
  .inr (.inl (0, 4, true, [.inr ((-2147483648), 2147483647)])),
  .inr (.inl (0, 8, true, [.inr ((-2147483648), 2147483647)])),
  .inr (.inl (0, 9, true, [.inr ((-2147483648), 2147483647)])),
  .inr (.inl (0, 80, true, [.inr ((-2147483648), 2147483647)])),
  .inl (1, [.inl (.inr (.inl ([200], false))), .inl (.inr (.inl ([201], false))), .inl (.inr (.inl ([202], false))), .inl (.inr (.inl ([203], false))), .inl (.inl ([], 0)), .inl (.inl ([], 0)), .inl (.inl ([], 0)), .inl (.inl ([], 0)), .inl (.inl ([], 0))]),
  .inr (.inl (0, 4, true, [.inr ((-2147483648), 2147483647)])),
  .inr (.inl (0, 8, true, [.inr ((-2147483648), 2147483647)])),
  .inr (.inl (0, 9, true, [.inr ((-2147483648), 2147483647)])),
  .inr (.inl (0, 80, true, [.inr ((-2147483648), 2147483647)])),
  .inl (1, [.inl (.inr (.inl ([205], false))), .inl (.inr (.inl ([206], false))), .inl (.inr (.inl ([207], false))), .inl (.inr (.inl ([208], false))), .inl (.inl ([], 0)), .inl (.inl ([], 0)), .inl (.inl ([], 0)), .inl (.inl ([], 0)), .inl (.inl ([], 0))]),
  .inr (.inl (0, 4, true, [.inr ((-2147483648), 2147483647)])),
  .inr (.inl (0, 8, true, [.inr ((-2147483648), 2147483647)])),
  .inr (.inl (0, 9, true, [.inr ((-2147483648), 2147483647)])),
  .inr (.inl (0, 80, true, [.inr ((-2147483648), 2147483647)])),
  .inl (1, [.inl (.inr (.inl ([210], false))), .inl (.inr (.inl ([211], false))), .inl (.inr (.inl ([212], false))), .inl (.inr (.inl ([213], false))), .inl (.inl ([], 0)), .inl (.inl ([], 0)), .inl (.inl ([], 0)), .inl (.inl ([], 0)), .inl (.inl ([], 0))]),
  .inr (.inl (0, 4, true, [.inr ((-2147483648), 2147483647)])),
  .inr (.inl (0, 8, true, [.inr ((-2147483648), 2147483647)])),
  .inr (.inl (0, 9, true, [.inr ((-2147483648), 2147483647)])),
  .inr (.inl (0, 80, true, [.inr ((-2147483648), 2147483647)])),
  .inl (1, [.inl (.inr (.inl ([215], false))), .inl (.inr (.inl ([216], false))), .inl (.inr (.inl ([217], false))), .inl (.inr (.inl ([218], false))), .inl (.inl ([], 0)), .inl (.inl ([], 0)), .inl (.inl ([], 0)), .inl (.inl ([], 0)), .inl (.inl ([], 0))]),
  .inr (.inl (0, 4, true, [.inr ((-2147483648), 2147483647)])),
  .inr (.inl (0, 8, true, [.inr ((-2147483648), 2147483647)])),
  .inr (.inl (0, 9, true, [.inr ((-2147483648), 2147483647)])),
  .inr (.inl (0, 80, true, [.inr ((-2147483648), 2147483647)])),
  .inl (1, [.inl (.inr (.inl ([220], false))), .inl (.inr (.inl ([221], false))), .inl (.inr (.inl ([222], false))), .inl (.inr (.inl ([223], false))), .inl (.inl ([], 0)), .inl (.inl ([], 0)), .inl (.inl ([], 0)), .inl (.inl ([], 0)), .inl (.inl ([], 0))]),
  .inr (.inl (0, 4, true, [.inr ((-2147483648), 2147483647)])),
  .inr (.inl (0, 8, true, [.inr ((-2147483648), 2147483647)])),
  .inr (.inl (0, 9, true, [.inr ((-2147483648), 2147483647)])),
  .inr (.inl (0, 80, true, [.inr ((-2147483648), 2147483647)])),
  .inl (1, [.inl (.inr (.inl ([225], false))), .inl (.inr (.inl ([226], false))), .inl (.inr (.inl ([227], false))), .inl (.inr (.inl ([228], false))), .inl (.inl ([], 0)), .inl (.inl ([], 0)), .inl (.inl ([], 0)), .inl (.inl ([], 0)), .inl (.inl ([], 0))]),
  .inr (.inl (0, 4, true, [.inr ((-2147483648), 2147483647)])),
  .inr (.inl (0, 8, true, [.inr ((-2147483648), 2147483647)])),
  .inr (.inl (0, 9, true, [.inr ((-2147483648), 2147483647)])),
  .inr (.inl (0, 80, true, [.inr ((-2147483648), 2147483647)])),
  .inl (1, [.inl (.inr (.inl ([230], false))), .inl (.inr (.inl ([231], false))), .inl (.inr (.inl ([232], false))), .inl (.inr (.inl ([233], false))), .inl (.inl ([], 0)), .inl (.inl ([], 0)), .inl (.inl ([], 0)), .inl (.inl ([], 0)), .inl (.inl ([], 0))]),
  .inr (.inl (0, 4, true, [.inr ((-2147483648), 2147483647)])),
  .inr (.inl (0, 8, true, [.inr ((-2147483648), 2147483647)])),
  .inr (.inl (0, 9, true, [.inr ((-2147483648), 2147483647)])),
  .inr (.inl (0, 80, true, [.inr ((-2147483648), 2147483647)])),
  .inl (0, [.inl (.inl ([], 0)), .inl (.inr (.inl ([235], false))), .inl (.inr (.inl ([236], false))), .inl (.inr (.inl ([237], false))), .inl (.inr (.inl ([238], false))), .inl (.inr (.inl ([239], false))), .inl (.inr (.inl ([240], false))), .inl (.inr (.inl ([241], false)))]),
  .inr (.inl (0, 60, true, [.inr ((-2147483648), 2147483647)])),
  .inr (.inl (0, 60, true, [.inr ((-2147483648), 2147483647)])),
  .inr (.inl (0, 60, true, [.inr ((-2147483648), 2147483647)])),
  .inr (.inl (0, 60, true, [.inr ((-2147483648), 2147483647)])),
  .inr (.inl (0, 60, true, [.inr ((-2147483648), 2147483647)])),
  .inr (.inl (0, 60, true, [.inr ((-2147483648), 2147483647)])),
  .inr (.inl (0, 60, true, [.inr ((-2147483648), 2147483647)])),
  .inl (5, [.inl (.inl ([], 0)), .inl (.inr (.inl ([243], false))), .inl (.inr (.inl ([244], false))), .inl (.inr (.inl ([245], false))), .inl (.inr (.inl ([246], false))), .inl (.inl ([], 0)), .inl (.inr (.inl ([247], false))), .inl (.inr (.inl ([248], false))), .inl (.inr (.inl ([249], false))), .inl (.inl ([], 0)), .inl (.inr (.inl ([250], false))), .inl (.inr (.inl ([251], false))), .inl (.inr (.inl ([252], false))), .inl (.inr (.inl ([253], false))), .inl (.inr (.inl ([254], false))), .inl (.inr (.inl ([255], false))), .inl (.inr (.inl ([256], false))), .inl (.inr (.inl ([257], false))), .inl (.inr (.inl ([258], false)))]),
  .inr (.inl (0, 400, true, [.inr ((-2147483648), 2147483647)])),
  .inr (.inl (0, 400, true, [.inr ((-2147483648), 2147483647)])),
  .inr (.inl (0, 400, true, [.inr ((-2147483648), 2147483647)])),
  .inr (.inl (2, 400, true, [.inr (0, 1)])),
  .inr (.inl (0, 60, true, [.inr ((-2147483648), 2147483647)])),
  .inr (.inl (0, 60, true, [.inr ((-2147483648), 2147483647)])),
  .inr (.inl (0, 60, true, [.inr ((-2147483648), 2147483647)])),
  .inr (.inl (0, 200, true, [.inr ((-2147483648), 2147483647)])),
  .inr (.inl (0, 200, true, [.inr ((-2147483648), 2147483647)])),
  .inr (.inl (0, 200, true, [.inr ((-2147483648), 2147483647)])),
  .inr (.inl (0, 480, true, [.inr ((-2147483648), 2147483647)])),
  .inr (.inl (0, 480, true, [.inr ((-2147483648), 2147483647)])),
  .inr (.inl (0, 480, true, [.inr ((-2147483648), 2147483647)])),
  .inr (.inl (0, 1200, true, [.inr ((-2147483648), 2147483647)])),
  .inr (.inl (0, 20, true, [.inr ((-2147483648), 2147483647)])),
  .inr (.inl (0, 1440, true, [.inr ((-2147483648), 2147483647)])),
  .inl (8, [.inl (.inr (.inl ([260], false))), .inl (.inr (.inl ([261], false))), .inl (.inl ([], 0))]),
  .inr (.inl (2, 625, false, List.replicate 625 (.inl (.inl ([], 0))))),
  .inr (.inl (0, 120, false, List.replicate 120 (.inl (.inl ([], 0))))),
  .inl (7, [.inl (.inr (.inl ([65], false))), .inl (.inl ([], 0)), .inl (.inl ([], 0)), .inl (.inl ([], 0)), .inl (.inl ([], 0)), .inl (.inl ([], 0)), .inl (.inr (.inl ([0], false))), .inl (.inr (.inl ([263], false))), .inl (.inl ([], 0))]),
  .inl (1, [.inl (.inr (.inl ([264], false))), .inl (.inr (.inl ([265], false))), .inl (.inr (.inl ([266], false))), .inl (.inr (.inl ([267], false))), .inl (.inl ([], 0)), .inl (.inl ([], 0)), .inl (.inl ([], 0)), .inl (.inl ([], 0)), .inl (.inl ([], 0))]),
  .inr (.inl (0, 4, true, [.inr ((-2147483648), 2147483647)])),
  .inr (.inl (0, 8, true, [.inr ((-2147483648), 2147483647)])),
  .inr (.inl (0, 9, true, [.inr ((-2147483648), 2147483647)])),
  .inr (.inl (0, 80, true, [.inr ((-2147483648), 2147483647)])),
  .inl (9, [.inl (.inr (.inl ([67], false))), .inl (.inr (.inl ([234], false))), .inl (.inr (.inl ([242], false))), .inl (.inr (.inl ([269], false))), .inl (.inr (.inl ([270], false))), .inl (.inr (.inl ([271], false))), .inl (.inr (.inl ([272], false))), .inl (.inl ([], 0)), .inl (.inr (.inl ([273], false)))]),
  .inr (.inl (0, 480, true, [.inr ((-2147483648), 2147483647)])),
  .inr (.inl (0, 480, true, [.inr ((-2147483648), 2147483647)])),
  .inr (.inl (0, 60, true, [.inr ((-2147483648), 2147483647)])),
  .inr (.inl (0, 60, true, [.inr ((-2147483648), 2147483647)])),
  .inr (.inl (0, 10, true, [.inr ((-2147483648), 2147483647)])),
  .inl (3, [.inl (.inr (.inl ([67], false))), .inl (.inr (.inl ([234], false))), .inl (.inr (.inl ([242], false))), .inl (.inr (.inl ([259], false))), .inl (.inr (.inl ([268], false))), .inl (.inr (.inl ([275], false)))]),
  .inr (.inl (0, 60, true, [.inr ((-2147483648), 2147483647)])),
  .inl (4, [.inl (.inr (.inl ([67], false))), .inl (.inr (.inl ([234], false))), .inl (.inr (.inl ([242], false))), .inl (.inr (.inl ([274], false))), .inl (.inr (.inl ([277], false))), .inl (.inr (.inl ([278], false))), .inl (.inr (.inl ([279], false))), .inl (.inr (.inl ([280], false))), .inl (.inl ([], 0)), .inl (.inl ([], 0)), .inl (.inr (.inl ([281], false))), .inl (.inl ([], 0)), .inl (.inl ([], 0))]),
  .inr (.inl (0, 6, true, [.inr ((-2147483648), 2147483647)])),
  .inr (.inl (0, 6, true, [.inr ((-2147483648), 2147483647)])),
  .inr (.inl (0, 60, true, [.inr ((-2147483648), 2147483647)])),
  .inr (.inl (0, 480, true, [.inr ((-2147483648), 2147483647)])),
  .inr (.inl (0, 6, true, [.inr ((-2147483648), 2147483647)])),
  .inl (11, [.inl (.inl ([], 0)), .inl (.inr (.inl ([283], false))), .inl (.inl ([], 0)), .inl (.inl ([], 0)), .inl (.inl ([], 0)), .inl (.inl ([], 0)), .inl (.inl ([], 0)), .inl (.inr (.inl ([284], false))), .inl (.inr (.inl ([285], false))), .inl (.inr (.inl ([286], false))), .inl (.inr (.inl ([287], false))), .inl (.inr (.inl ([288], false))), .inl (.inr (.inl ([289], false))), .inl (.inr (.inl ([290], false))), .inl (.inr (.inl ([291], false))), .inl (.inr (.inl ([292], false))), .inl (.inr (.inl ([293], false))), .inl (.inr (.inl ([294], false))), .inl (.inr (.inl ([295], false))), .inl (.inr (.inl ([296], false))), .inl (.inr (.inl ([297], false))), .inl (.inl ([], 0)), .inl (.inl ([], 0)), .inl (.inl ([], 24)), .inl (.inl ([], 168)), .inl (.inr (.inl ([298], false))), .inl (.inr (.inl ([299], false))), .inl (.inr (.inl ([300], false))), .inl (.inr (.inl ([301], false))), .inl (.inr (.inl ([302], false))), .inl (.inr (.inl ([303], false))), .inl (.inr (.inl ([304], false))), .inl (.inr (.inl ([305], false))), .inl (.inr (.inl ([306], false))), .inl (.inr (.inl ([307], false))), .inl (.inr (.inl ([308], false))), .inl (.inr (.inl ([309], false))), .inl (.inl ([], 0)), .inl (.inl ([], 0)), .inl (.inl ([], 0)), .inl (.inl ([], 0)), .inl (.inl ([], 0)), .inl (.inl ([], 0)), .inl (.inl ([], 0)), .inl (.inl ([], 0)), .inl (.inl ([], 0)), .inl (.inl ([], 0)), .inl (.inr (.inr true)), .inl (.inr (.inl ([310], false))), .inl (.inr (.inl ([311], false))), .inl (.inr (.inl ([312], false))), .inl (.inr (.inl ([313], false))), .inl (.inr (.inl ([314], false))), .inl (.inr (.inl ([315], false))), .inl (.inr (.inl ([316], false))), .inl (.inr (.inl ([317], false))), .inl (.inr (.inl ([318], false))), .inl (.inr (.inl ([319], false))), .inl (.inr (.inl ([320], false))), .inl (.inr (.inl ([321], false))), .inl (.inr (.inl ([322], false))), .inl (.inr (.inl ([323], false))), .inl (.inr (.inl ([324], false))), .inl (.inr (.inl ([325], false))), .inl (.inr (.inl ([326], false))), .inl (.inr (.inl ([327], false))), .inl (.inr (.inl ([328], false))), .inl (.inl ([], 0)), .inl (.inl ([], 0)), .inl (.inl ([], 0)), .inl (.inl ([], 0)), .inl (.inl ([], 0)), .inl (.inr (.inl ([329], false))), .inl (.inr (.inl ([330], false))), .inl (.inr (.inl ([331], false))), .inl (.inr (.inl ([332], false))), .inl (.inr (.inl ([333], false))), .inl (.inr (.inl ([334], false))), .inl (.inl ([], 0)), .inl (.inr (.inl ([335], false))), .inl (.inr (.inl ([336], false))), .inl (.inr (.inl ([337], false))), .inl (.inr (.inl ([338], false))), .inl (.inr (.inl ([339], false))), .inl (.inr (.inl ([340], false))), .inl (.inr (.inl ([341], false))), .inl (.inr (.inl ([342], false))), .inl (.inr (.inl ([343], false))), .inl (.inl ([], 0)), .inl (.inl ([], 0)), .inl (.inr (.inl ([344], false))), .inl (.inr (.inl ([345], false))), .inl (.inr (.inl ([346], false))), .inl (.inr (.inl ([347], false))), .inl (.inr (.inl ([348], false))), .inl (.inr (.inl ([349], false))), .inl (.inr (.inl ([350], false))), .inl (.inl ([], 0)), .inl (.inl ([], 0)), .inl (.inl ([], 0)), .inl (.inl ([], (-1)))]),
  .inr (.inl (1, 340, true, [.inr ((-128), 127)])),
  .inr (.inl (0, 9, true, [.inr ((-2147483648), 2147483647)])),
  .inr (.inl (0, 9, true, [.inr ((-2147483648), 2147483647)])),
  .inr (.inl (0, 9, true, [.inr ((-2147483648), 2147483647)])),
  .inr (.inl (0, 36, true, [.inr ((-2147483648), 2147483647)])),
  .inr (.inl (0, 9, true, [.inr ((-2147483648), 2147483647)])),
  .inr (.inl (0, 72, true, [.inr ((-2147483648), 2147483647)])),
  .inr (.inl (0, 72, true, [.inr ((-2147483648), 2147483647)])),
  .inr (.inl (0, 72, true, [.inr ((-2147483648), 2147483647)])),
  .inr (.inl (0, 72, true, [.inr ((-2147483648), 2147483647)])),
  .inr (.inl (2, 9, true, [.inr (0, 1)])),
  .inr (.inl (0, 20, true, [.inr ((-2147483648), 2147483647)])),
  .inr (.inl (0, 20, true, [.inr ((-2147483648), 2147483647)])),
  .inr (.inl (0, 20, true, [.inr ((-2147483648), 2147483647)])),
  .inr (.inl (0, 8, true, [.inr ((-2147483648), 2147483647)])),
  .inr (.inl (0, 84, true, [.inr ((-2147483648), 2147483647)])),
  .inr (.inl (0, 21, true, [.inr ((-2147483648), 2147483647)])),
  .inr (.inl (0, 126, true, [.inr ((-2147483648), 2147483647)])),
  .inr (.inl (0, 126, true, [.inr ((-2147483648), 2147483647)])),
  .inr (.inl (0, 21, true, [.inr ((-2147483648), 2147483647)])),
  .inr (.inl (0, 168, true, [.inr ((-2147483648), 2147483647)])),
  .inr (.inl (0, 168, true, [.inr ((-2147483648), 2147483647)])),
  .inr (.inl (0, 168, true, [.inr ((-2147483648), 2147483647)])),
  .inr (.inl (0, 2100, true, [.inr ((-2147483648), 2147483647)])),
  .inr (.inl (0, 2100, true, [.inr ((-2147483648), 2147483647)])),
  .inr (.inl (0, 2100, true, [.inr ((-2147483648), 2147483647)])),
  .inr (.inl (0, 64, true, [.inr ((-2147483648), 2147483647)])),
  .inr (.inl (0, 200, true, [.inr ((-2147483648), 2147483647)])),
  .inr (.inl (0, 200, true, [.inr ((-2147483648), 2147483647)])),
  .inr (.inl (0, 200, true, [.inr ((-2147483648), 2147483647)])),
  .inr (.inl (0, 200, true, [.inr ((-2147483648), 2147483647)])),
  .inr (.inl (0, 60, true, [.inr ((-2147483648), 2147483647)])),
  .inr (.inl (0, 60, true, [.inr ((-2147483648), 2147483647)])),
  .inr (.inl (0, 60, true, [.inr ((-2147483648), 2147483647)])),
  .inr (.inl (0, 60, true, [.inr ((-2147483648), 2147483647)])),
  .inr (.inl (0, 400, true, [.inr ((-2147483648), 2147483647)])),
  .inr (.inl (0, 400, true, [.inr ((-2147483648), 2147483647)])),
  .inr (.inl (0, 400, true, [.inr ((-2147483648), 2147483647)])),
  .inr (.inl (0, 400, true, [.inr ((-2147483648), 2147483647)])),
  .inr (.inl (0, 66, true, [.inr ((-2147483648), 2147483647)])),
  .inr (.inl (0, 66, true, [.inr ((-2147483648), 2147483647)])),
  .inr (.inl (0, 66, true, [.inr ((-2147483648), 2147483647)])),
  .inr (.inl (0, 66, true, [.inr ((-2147483648), 2147483647)])),
  .inr (.inl (0, 66, true, [.inr ((-2147483648), 2147483647)])),
  .inr (.inl (0, 66, true, [.inr ((-2147483648), 2147483647)])),
  .inr (.inl (2, 400, true, [.inr (0, 1)])),
  .inr (.inl (0, 528, true, [.inr ((-2147483648), 2147483647)])),
  .inr (.inl (0, 528, true, [.inr ((-2147483648), 2147483647)])),
  .inr (.inl (0, 528, true, [.inr ((-2147483648), 2147483647)])),
  .inr (.inl (0, 66, true, [.inr ((-2147483648), 2147483647)])),
  .inr (.inl (0, 66, true, [.inr ((-2147483648), 2147483647)])),
  .inr (.inl (0, 66, true, [.inr ((-2147483648), 2147483647)])),
  .inr (.inl (2, 64, true, [.inr (0, 1)])),
  .inr (.inl (2, 625, false, List.replicate 625 (.inl (.inl ([], 0))))),
  .inr (.inl (2, 625, false, List.replicate 625 (.inl (.inl ([], 0))))),
  .inr (.inl (2, 721, true, [.inr (0, 1)])),
  .inr (.inl (2, 66, true, [.inr (0, 1)])),
  .inr (.inl (0, 5200, true, [.inr ((-2147483648), 2147483647)])),
  .inr (.inl (0, 5200, true, [.inr ((-2147483648), 2147483647)])),
  .inr (.inl (0, 5200, true, [.inr ((-2147483648), 2147483647)])),
  .inr (.inl (2, 9504, true, [.inr (0, 1)])),
  .inr (.inl (0, 5200, true, [.inr ((-2147483648), 2147483647)])),
  .inr (.inl (0, 5200, true, [.inr ((-2147483648), 2147483647)])),
  .inr (.inl (0, 5200, true, [.inr ((-2147483648), 2147483647)])),
  .inr (.inl (0, 6, true, [.inr ((-2147483648), 2147483647)])),
  .inr (.inl (0, 6, true, [.inr ((-2147483648), 2147483647)])),
  .inr (.inl (0, 6, true, [.inr ((-2147483648), 2147483647)])),
  .inr (.inl (0, 6, true, [.inr ((-2147483648), 2147483647)])),
  .inr (.inr 1)]
def zx_lvA : List (Nat × zx_V) := [(4, .inl ([], 0)), (3, .inr (.inl ([351], false))), (2, .inr (.inl ([282], false))), (1, .inr (.inl ([64], false))), (0, .inr (.inr false))]
def zx_GA (n : Int) : zx_G := [(6, 6), (-2147483648, 2147483647), (-2147483648, 2147483647), (-2147483648, 2147483647), (-2147483648, 2147483647), (-2147483648, 2147483647), (-2147483648, 2147483647), (n, n)]
def zx_qA (pc : Nat) (n : Int) : Nat × zx_T := (pc, zx_GA n, zx_hA, zx_lvA, [], (288, 73089))
/-! zx: equality of what a run gives, by running -/
def zx_dS : DecidableEq zx_S := @instDecidableEqSum zx_V (Int × Int) inferInstance inferInstance
def zx_dC : DecidableEq zx_C := @instDecidableEqSum (Nat × List zx_S) ((Nat × Nat × Bool × List zx_S) ⊕ Nat) (@instDecidableEqProd Nat (List zx_S) inferInstance (@instDecidableEqList zx_S zx_dS)) (@instDecidableEqSum (Nat × Nat × Bool × List zx_S) Nat (@instDecidableEqProd Nat (Nat × Bool × List zx_S) inferInstance (@instDecidableEqProd Nat (Bool × List zx_S) inferInstance (@instDecidableEqProd Bool (List zx_S) inferInstance (@instDecidableEqList zx_S zx_dS)))) inferInstance)
def zx_dH : DecidableEq (List zx_C) := @instDecidableEqList zx_C zx_dC
def zx_dT : DecidableEq zx_T := @instDecidableEqProd zx_G _ inferInstance (@instDecidableEqProd (List zx_C) (List (Nat × zx_V) × (List zx_V × (Nat × Nat))) zx_dH (@instDecidableEqProd (List (Nat × zx_V)) (List zx_V × (Nat × Nat)) (@instDecidableEqList (Nat × zx_V) (@instDecidableEqProd Nat zx_V inferInstance inferInstance)) (@instDecidableEqProd (List zx_V) (Nat × Nat) (@instDecidableEqList zx_V inferInstance) inferInstance)))
def zx_dOu : DecidableEq zx_Ou := @instDecidableEqProd zx_G _ inferInstance (@instDecidableEqProd (List zx_C) (Option zx_V) zx_dH (@Option.instDecidableEq zx_V inferInstance))
def zx_dOs : DecidableEq zx_Os := @instDecidableEqSum zx_Ou (Nat × zx_T) zx_dOu (@instDecidableEqProd Nat zx_T inferInstance zx_dT)
def zx_eqA (a b : Option (List zx_Os)) : Bool := @decide (a = b) (@Option.instDecidableEq _ (@instDecidableEqList _ zx_dOs) a b)
theorem zx_eqA_ok {a b : Option (List zx_Os)} (h : zx_eqA a b = true) : a = b := by
  unfold zx_eqA at h
  exact @of_decide_eq_true _ (_) h
def zx_eqO (a b : Option (List zx_Ou)) : Bool := @decide (a = b) (@Option.instDecidableEq _ (@instDecidableEqList _ zx_dOu) a b)
theorem zx_eqO_ok {a b : Option (List zx_Ou)} (h : zx_eqO a b = true) : a = b := by
  unfold zx_eqO at h
  exact @of_decide_eq_true _ (_) h
def zx_osA : List zx_Os := .inl (([(0, 5), (-2147483648, 2147483647), (-2147483648, 2147483647), (-2147483648, 2147483647), (-2147483648, 2147483647), (-2147483648, 2147483647), (-2147483648, 2147483647)], zx_hA, some (.inl ([], 1)))) :: .inl (([(6, 6), (-2147483648, 2147483647), (-2147483648, 2147483647), (-2147483648, 2147483647), (-2147483648, 2147483647), (-2147483648, 2147483647), (-2147483648, 2147483647), (28, 31)], zx_hA, some (.inl ([], 1)))) :: [.inr (zx_qA 168 0), .inr (zx_qA 241 1), .inr (zx_qA 266 2), .inr (zx_qA 291 3), .inr (zx_qA 368 4), .inr (zx_qA 417 5), .inr (zx_qA 466 6), .inr (zx_qA 503 7), .inr (zx_qA 528 8), .inr (zx_qA 541 9), .inr (zx_qA 602 10), .inr (zx_qA 675 11), .inr (zx_qA 752 12), .inr (zx_qA 801 13), .inr (zx_qA 878 14), .inr (zx_qA 903 15), .inr (zx_qA 971 16), .inr (zx_qA 1032 17), .inr (zx_qA 1081 18), .inr (zx_qA 1130 19), .inr (zx_qA 1179 20), .inr (zx_qA 1216 21), .inr (zx_qA 1265 22), .inr (zx_qA 1314 23), .inr (zx_qA 1351 24), .inr (zx_qA 1400 25), .inr (zx_qA 1425 26), .inr (zx_qA 1438 27)]
set_option maxRecDepth 1000000 in
theorem zx_SA_eq : zx_SA = some zx_osA := zx_eqA_ok (by decide +kernel)
end
section
/-! zx: calls whose two answers are the same by running both -/
set_option maxRecDepth 1000000 in
theorem zx_o168 : zx_lB zx_ft 400 (zx_qA 168 0) = true := by decide +kernel
set_option maxRecDepth 1000000 in
theorem zx_o241 : zx_lB zx_ft 400 (zx_qA 241 1) = true := by decide +kernel
set_option maxRecDepth 1000000 in
theorem zx_o266 : zx_lB zx_ft 400 (zx_qA 266 2) = true := by decide +kernel
set_option maxRecDepth 1000000 in
theorem zx_o291 : zx_lB zx_ft 400 (zx_qA 291 3) = true := by decide +kernel
set_option maxRecDepth 1000000 in
theorem zx_o368 : zx_lB zx_ft 400 (zx_qA 368 4) = true := by decide +kernel
set_option maxRecDepth 1000000 in
theorem zx_o417 : zx_lB zx_ft 400 (zx_qA 417 5) = true := by decide +kernel
set_option maxRecDepth 1000000 in
theorem zx_o466 : zx_lB zx_ft 400 (zx_qA 466 6) = true := by decide +kernel
set_option maxRecDepth 1000000 in
theorem zx_o503 : zx_lB zx_ft 400 (zx_qA 503 7) = true := by decide +kernel
set_option maxRecDepth 1000000 in
theorem zx_o528 : zx_lB zx_ft 400 (zx_qA 528 8) = true := by decide +kernel
set_option maxRecDepth 1000000 in
theorem zx_o541 : zx_lB zx_ft 400 (zx_qA 541 9) = true := by decide +kernel
end
section
/-! zx: calls whose two answers are the same by running both -/
set_option maxRecDepth 1000000 in
theorem zx_o602 : zx_lB zx_ft 400 (zx_qA 602 10) = true := by decide +kernel
set_option maxRecDepth 1000000 in
theorem zx_o675 : zx_lB zx_ft 400 (zx_qA 675 11) = true := by decide +kernel
set_option maxRecDepth 1000000 in
theorem zx_o752 : zx_lB zx_ft 400 (zx_qA 752 12) = true := by decide +kernel
set_option maxRecDepth 1000000 in
theorem zx_o801 : zx_lB zx_ft 400 (zx_qA 801 13) = true := by decide +kernel
set_option maxRecDepth 1000000 in
theorem zx_o971 : zx_lB zx_ft 400 (zx_qA 971 16) = true := by decide +kernel
set_option maxRecDepth 1000000 in
theorem zx_o1032 : zx_lB zx_ft 400 (zx_qA 1032 17) = true := by decide +kernel
set_option maxRecDepth 1000000 in
theorem zx_o1081 : zx_lB zx_ft 400 (zx_qA 1081 18) = true := by decide +kernel
set_option maxRecDepth 1000000 in
theorem zx_o1130 : zx_lB zx_ft 400 (zx_qA 1130 19) = true := by decide +kernel
set_option maxRecDepth 1000000 in
theorem zx_o1216 : zx_lB zx_ft 400 (zx_qA 1216 21) = true := by decide +kernel
set_option maxRecDepth 1000000 in
theorem zx_o1265 : zx_lB zx_ft 400 (zx_qA 1265 22) = true := by decide +kernel
set_option maxRecDepth 1000000 in
theorem zx_o1314 : zx_lB zx_ft 400 (zx_qA 1314 23) = true := by decide +kernel
set_option maxRecDepth 1000000 in
theorem zx_o1351 : zx_lB zx_ft 400 (zx_qA 1351 24) = true := by decide +kernel
set_option maxRecDepth 1000000 in
theorem zx_o1400 : zx_lB zx_ft 400 (zx_qA 1400 25) = true := by decide +kernel
set_option maxRecDepth 1000000 in
theorem zx_o1425 : zx_lB zx_ft 400 (zx_qA 1425 26) = true := by decide +kernel
set_option maxRecDepth 1000000 in
theorem zx_o1438 : zx_lB zx_ft 400 (zx_qA 1438 27) = true := by decide +kernel
end
section
/-! zx: the same runs, in fewer turns -/
noncomputable def zy_get {α : Type} (l : List α) : Nat → Option α := List.rec (motive := fun _ => Nat → Option α) (fun _ => none) (fun a _ ih n => Nat.rec (motive := fun _ => Option α) (some a) (fun m _ => ih m) n) l
theorem zy_get_eq {α : Type} : ∀ (l : List α) (n : Nat), zy_get l n = l[n]?
  | [], n => by simp [zy_get]
  | a :: t, 0 => rfl
  | a :: t, n + 1 => by
    rw [List.getElem?_cons_succ]
    exact zy_get_eq t n
noncomputable def zy_set {α : Type} (l : List α) : Nat → α → List α := List.rec (motive := fun _ => Nat → α → List α) (fun _ _ => []) (fun b t ih n a => Nat.rec (motive := fun _ => List α) (a :: t) (fun m _ => b :: ih m a) n) l
theorem zy_set_eq {α : Type} : ∀ (l : List α) (n : Nat) (a : α), zy_set l n a = l.set n a
  | [], n, a => rfl
  | b :: t, 0, a => rfl
  | b :: t, n + 1, a => by
    rw [List.set_cons_succ]
    show b :: zy_set t n a = _
    rw [zy_set_eq t n a]
noncomputable def zy_lk (lv : List (Nat × zx_V)) (i : Nat) : Option zx_V := List.rec (motive := fun _ => Option zx_V) none (fun q _ ih => Bool.rec (motive := fun _ => Option zx_V) ih (some q.2) (Nat.beq q.1 i)) lv
theorem zy_beq {α : Type} {n m : Nat} {a b : α} : (Bool.rec (motive := fun _ => α) a b (Nat.beq n m)) = if n = m then b else a := by
  by_cases h : n = m
  · rw [if_pos h, h, Nat.beq_refl]
  · rw [if_neg h]
    cases hb : Nat.beq n m with
    | true => exact absurd (Nat.eq_of_beq_eq_true hb) h
    | false => rfl
theorem zy_lk_eq : ∀ (lv : List (Nat × zx_V)) (i : Nat), zy_lk lv i = zx_lk lv i
  | [], _ => rfl
  | q :: r, i => by
    rw [zx_lk, ← zy_lk_eq r i]
    exact zy_beq
noncomputable def zy_st1 (lv : List (Nat × zx_V)) (i : Nat) (v : zx_V) : List (Nat × zx_V) := (i, v) :: List.rec (motive := fun _ => List (Nat × zx_V)) [] (fun q _ ih => Bool.rec (motive := fun _ => List (Nat × zx_V)) (Bool.rec (motive := fun _ => List (Nat × zx_V)) (q :: ih) (Bool.rec (motive := fun _ => List (Nat × zx_V)) (q :: ih) ih (Nat.beq (zx_cat q.2) 2)) (Nat.beq (q.1 + 1) i)) ih (Nat.beq q.1 i)) lv
theorem zy_st1_eq (lv : List (Nat × zx_V)) (i : Nat) (v : zx_V) : zy_st1 lv i v = zx_st1 lv i v := by
  unfold zy_st1 zx_st1
  congr 1
  induction lv with
  | nil => rfl
  | cons q r ih =>
    rw [List.filter_cons, ← ih]
    simp only [zy_beq]
    by_cases h1 : q.1 = i
    · simp [h1]
    · by_cases h2 : q.1 + 1 = i
      · by_cases h3 : zx_cat q.2 = 2
        · simp [h1, h2, h3]
        · simp [h1, h2, h3]
      · simp [h1, h2]
def zy_all {α β : Type} (f : α → Option (List β)) (l : List α) : Option (List β) := match l with
  | [] => some []
  | a :: t => match t with
    | [] => f a
    | c :: u => zx_all f (a :: c :: u)
theorem zy_all_eq {α β : Type} (f : α → Option (List β)) (l : List α) : zy_all f l = zx_all f l := by
  match l with
  | [] => rfl
  | [a] =>
    show f a = zx_all f [a]
    rw [zx_all, zx_all]
    cases f a with
    | none => rfl
    | some x => simp
  | a :: c :: u => rfl
section ZYX
variable (M : zx_M) (pc : Nat) (G : zx_G) (h : List zx_C) (lv : List (Nat × zx_V)) (k : Nat × Nat) (sk : List zx_V)
noncomputable def zy_xld (i d : Nat) : zx_O := match zy_lk lv i with
  | some (.inl e) => some [(pc + d, G, h, lv, .inl e :: sk, k)]
  | _ => none
noncomputable def zy_xlld (i d : Nat) : zx_O := match zy_lk lv i with
  | some (.inr (.inr true)) => some [(pc + d, G, h, lv, zx_lg :: sk, k)]
  | _ => none
noncomputable def zy_xald (i d : Nat) : zx_O := match zy_lk lv i with
  | some (.inr (.inl (r, false))) => some [(pc + d, G, h, lv, .inr (.inl (r, false)) :: sk, k)]
  | some (.inr (.inr false)) => some [(pc + d, G, h, lv, .inr (.inr false) :: sk, k)]
  | _ => none
noncomputable def zy_xst (i d : Nat) : zx_O := match sk with
  | .inl e :: r => if i < zx_mV M then some [(pc + d, G, h, zy_st1 lv i (.inl e), r, k)] else none
  | _ => none
noncomputable def zy_xast (i d : Nat) : zx_O := match sk with
  | .inr (.inl (q, false)) :: r => if i < zx_mV M then some [(pc + d, G, h, zy_st1 lv i (.inr (.inl (q, false))), r, k)] else none
  | _ => none
noncomputable def zy_xinc (i : Nat) (n : Int) : zx_O := match zy_lk lv i with
  | some (.inl e) => if decide (i < zx_mV M) && decide (-32768 ≤ n) && decide (n ≤ 32767) then (match zx_val G (zx_add e ([], n)) with
    | some r => some [(pc + 3, r.1, h, zy_st1 lv i r.2, sk, k)]
    | none => none) else none
  | _ => none
noncomputable def zy_xtab (dflt lo hi : Int) (offs : Array Int) : zx_O := match sk with
  | .inl x :: r => (match zx_rng G x with
    | some t => zy_all (zx_xtab1 pc h lv k dflt lo hi offs x r) (zx_tcuts G x t lo hi)
    | none => none)
  | _ => none
end ZYX
theorem zy_xld_eq : @zy_xld = @zx_xld := by
  delta zy_xld zx_xld
  first | rfl | (simp only [zy_get_eq, zy_set_eq, zy_lk_eq, zy_st1_eq, zy_all_eq] <;> rfl) | (simp only [zy_get_eq, zy_set_eq, zy_lk_eq, zy_st1_eq, zy_all_eq])
theorem zy_xlld_eq : @zy_xlld = @zx_xlld := by
  delta zy_xlld zx_xlld
  first | rfl | (simp only [zy_get_eq, zy_set_eq, zy_lk_eq, zy_st1_eq, zy_all_eq, zy_xld_eq] <;> rfl) | (simp only [zy_get_eq, zy_set_eq, zy_lk_eq, zy_st1_eq, zy_all_eq, zy_xld_eq])
theorem zy_xald_eq : @zy_xald = @zx_xald := by
  delta zy_xald zx_xald
  first | rfl | (simp only [zy_get_eq, zy_set_eq, zy_lk_eq, zy_st1_eq, zy_all_eq, zy_xld_eq, zy_xlld_eq] <;> rfl) | (simp only [zy_get_eq, zy_set_eq, zy_lk_eq, zy_st1_eq, zy_all_eq, zy_xld_eq, zy_xlld_eq])
theorem zy_xst_eq : @zy_xst = @zx_xst := by
  delta zy_xst zx_xst
  first | rfl | (simp only [zy_get_eq, zy_set_eq, zy_lk_eq, zy_st1_eq, zy_all_eq, zy_xld_eq, zy_xlld_eq, zy_xald_eq] <;> rfl) | (simp only [zy_get_eq, zy_set_eq, zy_lk_eq, zy_st1_eq, zy_all_eq, zy_xld_eq, zy_xlld_eq, zy_xald_eq])
theorem zy_xast_eq : @zy_xast = @zx_xast := by
  delta zy_xast zx_xast
  first | rfl | (simp only [zy_get_eq, zy_set_eq, zy_lk_eq, zy_st1_eq, zy_all_eq, zy_xld_eq, zy_xlld_eq, zy_xald_eq, zy_xst_eq] <;> rfl) | (simp only [zy_get_eq, zy_set_eq, zy_lk_eq, zy_st1_eq, zy_all_eq, zy_xld_eq, zy_xlld_eq, zy_xald_eq, zy_xst_eq])
theorem zy_xinc_eq : @zy_xinc = @zx_xinc := by
  delta zy_xinc zx_xinc
  first | rfl | (simp only [zy_get_eq, zy_set_eq, zy_lk_eq, zy_st1_eq, zy_all_eq, zy_xld_eq, zy_xlld_eq, zy_xald_eq, zy_xst_eq, zy_xast_eq] <;> rfl) | (simp only [zy_get_eq, zy_set_eq, zy_lk_eq, zy_st1_eq, zy_all_eq, zy_xld_eq, zy_xlld_eq, zy_xald_eq, zy_xst_eq, zy_xast_eq])
theorem zy_xtab_eq : @zy_xtab = @zx_xtab := by
  delta zy_xtab zx_xtab
  first | rfl | (simp only [zy_get_eq, zy_set_eq, zy_lk_eq, zy_st1_eq, zy_all_eq, zy_xld_eq, zy_xlld_eq, zy_xald_eq, zy_xst_eq, zy_xast_eq, zy_xinc_eq] <;> rfl) | (simp only [zy_get_eq, zy_set_eq, zy_lk_eq, zy_st1_eq, zy_all_eq, zy_xld_eq, zy_xlld_eq, zy_xald_eq, zy_xst_eq, zy_xast_eq, zy_xinc_eq])
section ZYY
variable (M : zx_M) (Y : zx_Y) (pc : Nat) (G : zx_G) (h : List zx_C) (lv : List (Nat × zx_V)) (k : Nat × Nat) (sk : List zx_V)
noncomputable def zy_xget1 (q : Nat × Nat × Nat × Bool) (r : List zx_V) (id : Nat) : zx_O := if id < 64 then none else match zy_get h (id - 64) with
  | some (.inl o) => if o.1 = q.1 then (match zy_get o.2 q.2.1 with
    | some sl => zx_xslot (pc + 3) G h lv k r sl
    | none => none) else none
  | _ => none
noncomputable def zy_xget (ix : Nat) : zx_O := match zx_mF M ix with
  | some q => (match sk with
    | .inr (.inl (ids, false)) :: r => zy_all (zy_xget1 pc G h lv k q r) ids
    | _ => none)
  | none => none
noncomputable def zy_xput (ix : Nat) : zx_O := match zx_mF M ix with
  | some q => (match sk with
    | v :: .inr (.inl ([id], false)) :: r => if id < 64 then none else (match zy_get h (id - 64) with
      | some (.inl o) => if o.1 = q.1 ∧ q.2.1 < o.2.length ∧ zx_fit G q.2.2.1 v = true ∧ (!q.2.2.2 || zx_mB M) = true then some [(pc + 3, G, zy_set h (id - 64) (.inl (o.1, zy_set o.2 q.2.1 (.inl v))), lv, r, k)] else none
      | _ => none)
    | _ => none)
  | none => none
noncomputable def zy_xal1 (r : List zx_V) (ar : Nat × Nat × Bool × List zx_S) (e : zx_L) (G1 : zx_G) : zx_O := match zx_rng G1 e with
  | none => none
  | some t => if 0 ≤ t.1 ∧ t.2 < (ar.2.1 : Int) then (if ar.2.2.1 = true then (match ar.2.2.2 with
      | sl :: _ => zx_xslot (pc + 1) G1 h lv k r sl
      | [] => none) else (if t.1 = t.2 then (match zy_get ar.2.2.2 t.1.toNat with
      | some sl => zx_xslot (pc + 1) G1 h lv k r sl
      | none => none) else none)) else none
noncomputable def zy_xal2 (ok : Nat → Bool) (r : List zx_V) (e : zx_L) (id : Nat) : zx_O := if id < 64 then none else match zy_get h (id - 64) with
  | some (.inr (.inl ar)) => if ok ar.1 = true then (if ar.2.2.1 = true then zy_xal1 pc h lv k r ar e G else (match zx_split G e with
    | some l => zy_all (zy_xal1 pc h lv k r ar e) l
    | none => none)) else none
  | _ => none
noncomputable def zy_xal (ok : Nat → Bool) : zx_O := match sk with
  | .inl e :: .inr (.inl (ids, false)) :: r => zy_all (zy_xal2 pc G h lv k ok r e) ids
  | _ => none
noncomputable def zy_xyl : zx_O := match sk with
  | .inl e :: .inr (.inl ([id], false)) :: r => (match zx_fd Y id with
    | some row => (match zx_split G e with
      | some l => zy_all (zx_xyl1 pc h lv k r row e) l
      | none => none)
    | none => none)
  | _ => none
noncomputable def zy_xas1 (r : List zx_V) (id : Nat) (ar : Nat × Nat × Bool × List zx_S) (v : zx_V) (e : zx_L) (G1 : zx_G) : zx_O := match zx_rng G1 e with
  | none => none
  | some t => if 0 ≤ t.1 ∧ t.1 = t.2 ∧ t.2 < (ar.2.1 : Int) then some [(pc + 1, G1, zy_set h (id - 64) (.inr (.inl (ar.1, ar.2.1, false, zy_set ar.2.2.2 t.1.toNat (.inl v)))), lv, r, k)] else none
noncomputable def zy_xas (by_ : Bool) : zx_O := match sk with
  | .inl v :: .inl e :: .inr (.inl ([id], false)) :: r => if id < 64 then none else (match zy_get h (id - 64), zx_rng G v, zx_rng G e with
    | some (.inr (.inl ar)), some tv, some te => if zx_bok by_ ar.1 tv = true then (if ar.2.2.1 = true then (match ar.2.2.2 with
        | [.inr t] => if 0 ≤ te.1 ∧ te.2 < (ar.2.1 : Int) ∧ zx_in tv t.1 t.2 = true then some [(pc + 1, G, h, lv, r, k)] else none
        | _ => none) else (match zx_split G e with
        | some l => zy_all (zy_xas1 pc h lv k r id ar (.inl v) e) l
        | none => none)) else none
    | _, _, _ => none)
  | _ => none
noncomputable def zy_xqs : zx_O := match sk with
  | .inr (.inl ([iv], false)) :: .inl e :: .inr (.inl ([id], false)) :: r => if id < 64 ∨ iv < 64 then none else (match zy_get h (id - 64), zy_get h (iv - 64) with
    | some (.inr (.inl ar)), some (.inl o) => if ar.1 = 3 + o.1 ∧ ar.2.2.1 = false then (match zx_split G e with
        | some l => zy_all (zy_xas1 pc h lv k r id ar (.inr (.inl ([iv], false))) e) l
        | none => none) else none
    | _, _ => none)
  | _ => none
noncomputable def zy_xlen1 (r : List zx_V) (id : Nat) : zx_O := if id < 64 then none else match zy_get h (id - 64) with
  | some (.inr (.inl ar)) => if ar.2.1 < 2147483648 then some [(pc + 1, G, h, lv, .inl ([], (ar.2.1 : Int)) :: r, k)] else none
  | _ => none
noncomputable def zy_xlen : zx_O := match sk with
  | .inr (.inl (ids, false)) :: r => zy_all (zy_xlen1 pc G h lv k r) ids
  | _ => none
end ZYY
theorem zy_xget1_eq : @zy_xget1 = @zx_xget1 := by
  delta zy_xget1 zx_xget1
  first | rfl | (simp only [zy_get_eq, zy_set_eq, zy_lk_eq, zy_st1_eq, zy_all_eq, zy_xld_eq, zy_xlld_eq, zy_xald_eq, zy_xst_eq, zy_xast_eq, zy_xinc_eq, zy_xtab_eq] <;> rfl) | (simp only [zy_get_eq, zy_set_eq, zy_lk_eq, zy_st1_eq, zy_all_eq, zy_xld_eq, zy_xlld_eq, zy_xald_eq, zy_xst_eq, zy_xast_eq, zy_xinc_eq, zy_xtab_eq])
theorem zy_xget_eq : @zy_xget = @zx_xget := by
  delta zy_xget zx_xget
  first | rfl | (simp only [zy_get_eq, zy_set_eq, zy_lk_eq, zy_st1_eq, zy_all_eq, zy_xld_eq, zy_xlld_eq, zy_xald_eq, zy_xst_eq, zy_xast_eq, zy_xinc_eq, zy_xtab_eq, zy_xget1_eq] <;> rfl) | (simp only [zy_get_eq, zy_set_eq, zy_lk_eq, zy_st1_eq, zy_all_eq, zy_xld_eq, zy_xlld_eq, zy_xald_eq, zy_xst_eq, zy_xast_eq, zy_xinc_eq, zy_xtab_eq, zy_xget1_eq])
theorem zy_xput_eq : @zy_xput = @zx_xput := by
  delta zy_xput zx_xput
  first | rfl | (simp only [zy_get_eq, zy_set_eq, zy_lk_eq, zy_st1_eq, zy_all_eq, zy_xld_eq, zy_xlld_eq, zy_xald_eq, zy_xst_eq, zy_xast_eq, zy_xinc_eq, zy_xtab_eq, zy_xget1_eq, zy_xget_eq] <;> rfl) | (simp only [zy_get_eq, zy_set_eq, zy_lk_eq, zy_st1_eq, zy_all_eq, zy_xld_eq, zy_xlld_eq, zy_xald_eq, zy_xst_eq, zy_xast_eq, zy_xinc_eq, zy_xtab_eq, zy_xget1_eq, zy_xget_eq])
theorem zy_xal1_eq : @zy_xal1 = @zx_xal1 := by
  delta zy_xal1 zx_xal1
  first | rfl | (simp only [zy_get_eq, zy_set_eq, zy_lk_eq, zy_st1_eq, zy_all_eq, zy_xld_eq, zy_xlld_eq, zy_xald_eq, zy_xst_eq, zy_xast_eq, zy_xinc_eq, zy_xtab_eq, zy_xget1_eq, zy_xget_eq, zy_xput_eq] <;> rfl) | (simp only [zy_get_eq, zy_set_eq, zy_lk_eq, zy_st1_eq, zy_all_eq, zy_xld_eq, zy_xlld_eq, zy_xald_eq, zy_xst_eq, zy_xast_eq, zy_xinc_eq, zy_xtab_eq, zy_xget1_eq, zy_xget_eq, zy_xput_eq])
theorem zy_xal2_eq : @zy_xal2 = @zx_xal2 := by
  delta zy_xal2 zx_xal2
  first | rfl | (simp only [zy_get_eq, zy_set_eq, zy_lk_eq, zy_st1_eq, zy_all_eq, zy_xld_eq, zy_xlld_eq, zy_xald_eq, zy_xst_eq, zy_xast_eq, zy_xinc_eq, zy_xtab_eq, zy_xget1_eq, zy_xget_eq, zy_xput_eq, zy_xal1_eq] <;> rfl) | (simp only [zy_get_eq, zy_set_eq, zy_lk_eq, zy_st1_eq, zy_all_eq, zy_xld_eq, zy_xlld_eq, zy_xald_eq, zy_xst_eq, zy_xast_eq, zy_xinc_eq, zy_xtab_eq, zy_xget1_eq, zy_xget_eq, zy_xput_eq, zy_xal1_eq])
theorem zy_xal_eq : @zy_xal = @zx_xal := by
  delta zy_xal zx_xal
  first | rfl | (simp only [zy_get_eq, zy_set_eq, zy_lk_eq, zy_st1_eq, zy_all_eq, zy_xld_eq, zy_xlld_eq, zy_xald_eq, zy_xst_eq, zy_xast_eq, zy_xinc_eq, zy_xtab_eq, zy_xget1_eq, zy_xget_eq, zy_xput_eq, zy_xal1_eq, zy_xal2_eq] <;> rfl) | (simp only [zy_get_eq, zy_set_eq, zy_lk_eq, zy_st1_eq, zy_all_eq, zy_xld_eq, zy_xlld_eq, zy_xald_eq, zy_xst_eq, zy_xast_eq, zy_xinc_eq, zy_xtab_eq, zy_xget1_eq, zy_xget_eq, zy_xput_eq, zy_xal1_eq, zy_xal2_eq])
theorem zy_xyl_eq : @zy_xyl = @zx_xyl := by
  delta zy_xyl zx_xyl
  first | rfl | (simp only [zy_get_eq, zy_set_eq, zy_lk_eq, zy_st1_eq, zy_all_eq, zy_xld_eq, zy_xlld_eq, zy_xald_eq, zy_xst_eq, zy_xast_eq, zy_xinc_eq, zy_xtab_eq, zy_xget1_eq, zy_xget_eq, zy_xput_eq, zy_xal1_eq, zy_xal2_eq, zy_xal_eq] <;> rfl) | (simp only [zy_get_eq, zy_set_eq, zy_lk_eq, zy_st1_eq, zy_all_eq, zy_xld_eq, zy_xlld_eq, zy_xald_eq, zy_xst_eq, zy_xast_eq, zy_xinc_eq, zy_xtab_eq, zy_xget1_eq, zy_xget_eq, zy_xput_eq, zy_xal1_eq, zy_xal2_eq, zy_xal_eq])
theorem zy_xas1_eq : @zy_xas1 = @zx_xas1 := by
  delta zy_xas1 zx_xas1
  first | rfl | (simp only [zy_get_eq, zy_set_eq, zy_lk_eq, zy_st1_eq, zy_all_eq, zy_xld_eq, zy_xlld_eq, zy_xald_eq, zy_xst_eq, zy_xast_eq, zy_xinc_eq, zy_xtab_eq, zy_xget1_eq, zy_xget_eq, zy_xput_eq, zy_xal1_eq, zy_xal2_eq, zy_xal_eq, zy_xyl_eq] <;> rfl) | (simp only [zy_get_eq, zy_set_eq, zy_lk_eq, zy_st1_eq, zy_all_eq, zy_xld_eq, zy_xlld_eq, zy_xald_eq, zy_xst_eq, zy_xast_eq, zy_xinc_eq, zy_xtab_eq, zy_xget1_eq, zy_xget_eq, zy_xput_eq, zy_xal1_eq, zy_xal2_eq, zy_xal_eq, zy_xyl_eq])
theorem zy_xas_eq : @zy_xas = @zx_xas := by
  delta zy_xas zx_xas
  first | rfl | (simp only [zy_get_eq, zy_set_eq, zy_lk_eq, zy_st1_eq, zy_all_eq, zy_xld_eq, zy_xlld_eq, zy_xald_eq, zy_xst_eq, zy_xast_eq, zy_xinc_eq, zy_xtab_eq, zy_xget1_eq, zy_xget_eq, zy_xput_eq, zy_xal1_eq, zy_xal2_eq, zy_xal_eq, zy_xyl_eq, zy_xas1_eq] <;> rfl) | (simp only [zy_get_eq, zy_set_eq, zy_lk_eq, zy_st1_eq, zy_all_eq, zy_xld_eq, zy_xlld_eq, zy_xald_eq, zy_xst_eq, zy_xast_eq, zy_xinc_eq, zy_xtab_eq, zy_xget1_eq, zy_xget_eq, zy_xput_eq, zy_xal1_eq, zy_xal2_eq, zy_xal_eq, zy_xyl_eq, zy_xas1_eq])
theorem zy_xqs_eq : @zy_xqs = @zx_xqs := by
  delta zy_xqs zx_xqs
  first | rfl | (simp only [zy_get_eq, zy_set_eq, zy_lk_eq, zy_st1_eq, zy_all_eq, zy_xld_eq, zy_xlld_eq, zy_xald_eq, zy_xst_eq, zy_xast_eq, zy_xinc_eq, zy_xtab_eq, zy_xget1_eq, zy_xget_eq, zy_xput_eq, zy_xal1_eq, zy_xal2_eq, zy_xal_eq, zy_xyl_eq, zy_xas1_eq, zy_xas_eq] <;> rfl) | (simp only [zy_get_eq, zy_set_eq, zy_lk_eq, zy_st1_eq, zy_all_eq, zy_xld_eq, zy_xlld_eq, zy_xald_eq, zy_xst_eq, zy_xast_eq, zy_xinc_eq, zy_xtab_eq, zy_xget1_eq, zy_xget_eq, zy_xput_eq, zy_xal1_eq, zy_xal2_eq, zy_xal_eq, zy_xyl_eq, zy_xas1_eq, zy_xas_eq])
theorem zy_xlen1_eq : @zy_xlen1 = @zx_xlen1 := by
  delta zy_xlen1 zx_xlen1
  first | rfl | (simp only [zy_get_eq, zy_set_eq, zy_lk_eq, zy_st1_eq, zy_all_eq, zy_xld_eq, zy_xlld_eq, zy_xald_eq, zy_xst_eq, zy_xast_eq, zy_xinc_eq, zy_xtab_eq, zy_xget1_eq, zy_xget_eq, zy_xput_eq, zy_xal1_eq, zy_xal2_eq, zy_xal_eq, zy_xyl_eq, zy_xas1_eq, zy_xas_eq, zy_xqs_eq] <;> rfl) | (simp only [zy_get_eq, zy_set_eq, zy_lk_eq, zy_st1_eq, zy_all_eq, zy_xld_eq, zy_xlld_eq, zy_xald_eq, zy_xst_eq, zy_xast_eq, zy_xinc_eq, zy_xtab_eq, zy_xget1_eq, zy_xget_eq, zy_xput_eq, zy_xal1_eq, zy_xal2_eq, zy_xal_eq, zy_xyl_eq, zy_xas1_eq, zy_xas_eq, zy_xqs_eq])
theorem zy_xlen_eq : @zy_xlen = @zx_xlen := by
  delta zy_xlen zx_xlen
  first | rfl | (simp only [zy_get_eq, zy_set_eq, zy_lk_eq, zy_st1_eq, zy_all_eq, zy_xld_eq, zy_xlld_eq, zy_xald_eq, zy_xst_eq, zy_xast_eq, zy_xinc_eq, zy_xtab_eq, zy_xget1_eq, zy_xget_eq, zy_xput_eq, zy_xal1_eq, zy_xal2_eq, zy_xal_eq, zy_xyl_eq, zy_xas1_eq, zy_xas_eq, zy_xqs_eq, zy_xlen1_eq] <;> rfl) | (simp only [zy_get_eq, zy_set_eq, zy_lk_eq, zy_st1_eq, zy_all_eq, zy_xld_eq, zy_xlld_eq, zy_xald_eq, zy_xst_eq, zy_xast_eq, zy_xinc_eq, zy_xtab_eq, zy_xget1_eq, zy_xget_eq, zy_xput_eq, zy_xal1_eq, zy_xal2_eq, zy_xal_eq, zy_xyl_eq, zy_xas1_eq, zy_xas_eq, zy_xqs_eq, zy_xlen1_eq])
section ZYD
variable (M : zx_M) (Y : zx_Y) (dt : List (List Nat)) (pc : Nat) (i : Instr) (G : zx_G) (h : List zx_C) (lv : List (Nat × zx_V)) (k : Nat × Nat) (sk : List zx_V)
noncomputable def zy_xiald : zx_O := match sk with
  | _ :: .inr (.inr false) :: _ => zx_xsl M pc G h lv k sk
  | _ :: .inr (.inl (id :: _, _)) :: _ => if id < 64 then zy_xyl Y pc G h lv k sk else zy_xal pc G h lv k sk (fun t => t == 0)
  | _ => none
noncomputable def zy_xalen : zx_O := match sk with
  | .inr (.inr false) :: _ => zx_xsn M pc G h lv k sk
  | .inr (.inl (id :: _, _)) :: _ => if id < 64 then zx_xyn Y pc G h lv k sk else zy_xlen pc G h lv k sk
  | _ => none
end ZYD
theorem zy_xiald_eq : @zy_xiald = @zx_xiald := by
  delta zy_xiald zx_xiald
  first | rfl | (simp only [zy_get_eq, zy_set_eq, zy_lk_eq, zy_st1_eq, zy_all_eq, zy_xld_eq, zy_xlld_eq, zy_xald_eq, zy_xst_eq, zy_xast_eq, zy_xinc_eq, zy_xtab_eq, zy_xget1_eq, zy_xget_eq, zy_xput_eq, zy_xal1_eq, zy_xal2_eq, zy_xal_eq, zy_xyl_eq, zy_xas1_eq, zy_xas_eq, zy_xqs_eq, zy_xlen1_eq, zy_xlen_eq] <;> rfl) | (simp only [zy_get_eq, zy_set_eq, zy_lk_eq, zy_st1_eq, zy_all_eq, zy_xld_eq, zy_xlld_eq, zy_xald_eq, zy_xst_eq, zy_xast_eq, zy_xinc_eq, zy_xtab_eq, zy_xget1_eq, zy_xget_eq, zy_xput_eq, zy_xal1_eq, zy_xal2_eq, zy_xal_eq, zy_xyl_eq, zy_xas1_eq, zy_xas_eq, zy_xqs_eq, zy_xlen1_eq, zy_xlen_eq])
theorem zy_xalen_eq : @zy_xalen = @zx_xalen := by
  delta zy_xalen zx_xalen
  first | rfl | (simp only [zy_get_eq, zy_set_eq, zy_lk_eq, zy_st1_eq, zy_all_eq, zy_xld_eq, zy_xlld_eq, zy_xald_eq, zy_xst_eq, zy_xast_eq, zy_xinc_eq, zy_xtab_eq, zy_xget1_eq, zy_xget_eq, zy_xput_eq, zy_xal1_eq, zy_xal2_eq, zy_xal_eq, zy_xyl_eq, zy_xas1_eq, zy_xas_eq, zy_xqs_eq, zy_xlen1_eq, zy_xlen_eq, zy_xiald_eq] <;> rfl) | (simp only [zy_get_eq, zy_set_eq, zy_lk_eq, zy_st1_eq, zy_all_eq, zy_xld_eq, zy_xlld_eq, zy_xald_eq, zy_xst_eq, zy_xast_eq, zy_xinc_eq, zy_xtab_eq, zy_xget1_eq, zy_xget_eq, zy_xput_eq, zy_xal1_eq, zy_xal2_eq, zy_xal_eq, zy_xyl_eq, zy_xas1_eq, zy_xas_eq, zy_xqs_eq, zy_xlen1_eq, zy_xlen_eq, zy_xiald_eq])
abbrev zy_F : Type := zx_G → List zx_C → List (Nat × zx_V) → Nat × Nat → List zx_V → zx_O
section ZYE
variable (M : zx_M) (Y : zx_Y) (dt : List (List Nat)) (pc : Nat) (i : Instr)
noncomputable def zy_op : Option zy_F := match i with
  | .iconst n => some (fun G h lv k sk => zx_xk pc G h lv k sk n (-128) 127 1)
  | .bipush n => some (fun G h lv k sk => zx_xk pc G h lv k sk n (-128) 127 2)
  | .sipush n => some (fun G h lv k sk => zx_xk pc G h lv k sk n (-32768) 32767 3)
  | .ldc ix => some (fun G h lv k sk => zx_xint pc G h lv k sk (zx_mI M ix) 2)
  | .ldc_w ix => some (fun G h lv k sk => zx_xint pc G h lv k sk (zx_mI M ix) 3)
  | .ldc2_w ix => some (fun G h lv k sk => zx_xldc2 M pc G h lv k sk ix)
  | .lconst _ => some (fun G h lv k sk => zx_xlc pc G h lv k sk)
  | .iload n => some (fun G h lv k sk => zy_xld pc G h lv k sk n 2)
  | .iload_n n => some (fun G h lv k sk => zy_xld pc G h lv k sk n 1)
  | .lload n => some (fun G h lv k sk => zy_xlld pc G h lv k sk n 2)
  | .lload_n n => some (fun G h lv k sk => zy_xlld pc G h lv k sk n 1)
  | .aload n => some (fun G h lv k sk => zy_xald pc G h lv k sk n 2)
  | .aload_n n => some (fun G h lv k sk => zy_xald pc G h lv k sk n 1)
  | .istore n => some (fun G h lv k sk => zy_xst M pc G h lv k sk n 2)
  | .istore_n n => some (fun G h lv k sk => zy_xst M pc G h lv k sk n 1)
  | .lstore n => some (fun G h lv k sk => zx_xlst M pc G h lv k sk n 2)
  | .lstore_n n => some (fun G h lv k sk => zx_xlst M pc G h lv k sk n 1)
  | .astore n => some (fun G h lv k sk => zy_xast M pc G h lv k sk n 2)
  | .astore_n n => some (fun G h lv k sk => zy_xast M pc G h lv k sk n 1)
  | .iinc n c => some (fun G h lv k sk => zy_xinc M pc G h lv k sk n c)
  | .iadd => some (fun G h lv k sk => zx_xbin pc h lv k sk (fun x y => zx_val G (zx_add x y)))
  | .isub => some (fun G h lv k sk => zx_xbin pc h lv k sk (fun x y => zx_val G (zx_sub x y)))
  | .imul => some (fun G h lv k sk => zx_xbin pc h lv k sk (fun x y => zx_mul G x y))
  | .idiv => some (fun G h lv k sk => zx_xbin pc h lv k sk (fun x y => zx_div G x y))
  | .irem => some (fun G h lv k sk => zx_xbin pc h lv k sk (fun x y => zx_rem G x y))
  | .iand => some (fun G h lv k sk => zx_xbin pc h lv k sk (fun x y => zx_and G x y))
  | .ior => some (fun G h lv k sk => zx_xbin pc h lv k sk (fun _ _ => some (zx_full G)))
  | .ixor => some (fun G h lv k sk => zx_xbin pc h lv k sk (fun _ _ => some (zx_full G)))
  | .ishl => some (fun G h lv k sk => zx_xbin pc h lv k sk (fun _ _ => some (zx_full G)))
  | .ishr => some (fun G h lv k sk => zx_xbin pc h lv k sk (fun _ _ => some (zx_full G)))
  | .i2b => some (fun G h lv k sk => zx_xi2b pc G h lv k sk)
  | .i2l => some (fun G h lv k sk => zx_xi2l pc G h lv k sk)
  | .l2i => some (fun G h lv k sk => zx_xl2i pc G h lv k sk)
  | .land => some (fun G h lv k sk => zx_xlbin pc G h lv k sk)
  | .lor => some (fun G h lv k sk => zx_xlbin pc G h lv k sk)
  | .lxor => some (fun G h lv k sk => zx_xlbin pc G h lv k sk)
  | .lshl => some (fun G h lv k sk => zx_xlsh pc G h lv k sk)
  | .lshr => some (fun G h lv k sk => zx_xlsh pc G h lv k sk)
  | .lcmp => some (fun G h lv k sk => zx_xlcmp pc G h lv k sk)
  | .dup => some (fun G h lv k sk => zx_xdup pc G h lv k sk)
  | .pop => some (fun G h lv k sk => zx_xpop pc G h lv k sk)
  | .dup2 => some (fun G h lv k sk => zx_xdup2 pc G h lv k sk)
  | .goto off => some (fun G h lv k sk => zx_xgoto pc G h lv k sk off)
  | .ifCond c off => some (fun G h lv k sk => zx_xif pc G h lv k sk c off)
  | .if_icmp c off => some (fun G h lv k sk => zx_xicmp pc G h lv k sk c off)
  | .tableswitch d lo hi offs => some (fun G h lv k sk => zy_xtab pc G h lv k sk d lo hi offs)
  | .getfield ix => some (fun G h lv k sk => zy_xget M pc G h lv k sk ix)
  | .putfield ix => some (fun G h lv k sk => zy_xput M pc G h lv k sk ix)
  | .getstatic ix => some (fun G h lv k sk => zx_xgs M pc G h lv k sk ix)
  | .iaload => some (fun G h lv k sk => zy_xiald M Y pc G h lv k sk)
  | .baload => some (fun G h lv k sk => zy_xal pc G h lv k sk (fun t => t == 1 || t == 2))
  | .aaload => some (fun G h lv k sk => zy_xal pc G h lv k sk (fun t => Nat.ble 3 t))
  | .iastore => some (fun G h lv k sk => zy_xas pc G h lv k sk false)
  | .bastore => some (fun G h lv k sk => zy_xas pc G h lv k sk true)
  | .aastore => some (fun G h lv k sk => zy_xqs pc G h lv k sk)
  | .arraylength => some (fun G h lv k sk => zy_xalen M Y pc G h lv k sk)
  | .new ix => some (fun G h lv k sk => zx_xnew M pc G h lv k sk ix dt)
  | .newarray a => some (fun G h lv k sk => zx_xna M pc G h lv k sk a)
  | .anewarray ix => some (fun G h lv k sk => zx_xnq M pc G h lv k sk ix)
  | _ => none
end ZYE
def zy_ap (f : Option zy_F) (G : zx_G) (h : List zx_C) (lv : List (Nat × zx_V)) (k : Nat × Nat) (sk : List zx_V) : zx_O := match f with
  | some f => f G h lv k sk
  | none => none
theorem zy_op_eq (M : zx_M) (Y : zx_Y) (dt : List (List Nat)) (pc : Nat) (i : Instr) (G : zx_G) (h : List zx_C) (lv : List (Nat × zx_V)) (k : Nat × Nat) (sk : List zx_V) : zy_ap (zy_op M Y dt pc i) G h lv k sk = zx_step M Y dt pc i G h lv k sk := by
  cases i <;> first | rfl | (simp only [zy_op, zy_ap, zx_step, zy_xld_eq, zy_xlld_eq, zy_xald_eq, zy_xst_eq, zy_xast_eq, zy_xinc_eq, zy_xtab_eq, zy_xget1_eq, zy_xget_eq, zy_xput_eq, zy_xal1_eq, zy_xal2_eq, zy_xal_eq, zy_xyl_eq, zy_xas1_eq, zy_xas_eq, zy_xqs_eq, zy_xlen1_eq, zy_xlen_eq, zy_xiald_eq, zy_xalen_eq])
/-! whole methods -/
noncomputable def zy_objs (h : List zx_C) (ci : Nat) : List Nat → Bool
  | [] => true
  | id :: r => if id < 64 then false else match zy_get h (id - 64) with
    | some (.inl o) => if o.1 = ci then zy_objs h ci r else false
    | _ => false
theorem zy_objs_eq (h : List zx_C) (ci : Nat) : ∀ l : List Nat, zy_objs h ci l = zx_objs h ci l
  | [] => rfl
  | id :: r => by
    rw [zy_objs, zx_objs, zy_get_eq, zy_objs_eq h ci r]
    rfl
noncomputable def zy_rc0 (h : List zx_C) (ci : Nat) (as : List zx_V) : Bool := match as with
  | .inr (.inl (ids, false)) :: _ => zy_objs h ci ids
  | _ => false
noncomputable def zy_recvr (kd ci : Nat) (h : List zx_C) (as : List zx_V) : Bool := match kd with
  | 0 => zy_rc0 h ci as
  | 2 => zx_rc1 as
  | 4 => zx_rc1 as
  | _ => true
theorem zy_recvr_eq (kd ci : Nat) (h : List zx_C) (as : List zx_V) : zy_recvr kd ci h as = zx_recvr kd ci h as := by
  have h0 : zy_rc0 h ci as = zx_rc0 h ci as := by
    unfold zy_rc0 zx_rc0
    simp only [zy_objs_eq]
    rfl
  unfold zy_recvr zx_recvr
  rw [h0]
  rfl
noncomputable def zy_call (M : zx_M) (cf : Nat → Option (Nat × Nat × Nat × Nat)) (rmt : List (Nat × Nat)) (f : zx_Fn) (ix : Nat × Nat) (G : zx_G) (h : List zx_C) (k : Nat × Nat) (sk : List zx_V) : Option (List (zx_G × (List zx_C × (List zx_V × (Nat × Nat))))) := match cf ix.1 with
  | some q => if q.1 = 5 ∧ ix.2 = 2 then (match sk with
      | .inr (.inl (_, false)) :: r => if zx_cats r ≤ 8 then some [(G, h, r, k)] else none
      | _ => none) else (match zy_get rmt q.2.1 with
      | some rm => if zx_kok q.1 ix.2 = true ∧ (sk.take q.2.2.1).length = q.2.2.1 ∧ zx_cats (sk.drop q.2.2.1) ≤ 8 ∧ zx_le2 (k.1 + rm.1, k.2 + rm.2) (zx_mR M) = true ∧ zy_recvr q.1 q.2.2.2 h (sk.take q.2.2.1).reverse = true then (match f q.2.1 G h (sk.take q.2.2.1).reverse with
        | some os => some (zx_back (sk.drop q.2.2.1) (k.1 + rm.1, k.2 + rm.2) os)
        | none => none) else none
      | none => none)
  | none => none
theorem zy_call_eq : @zy_call = @zx_call := by
  delta zy_call zx_call
  simp only [zy_get_eq, zy_recvr_eq] <;> rfl
noncomputable def zy_drop (t : Nat) (l : List (Nat × Instr × Nat)) : List (Nat × Instr × Nat) := List.rec (motive := fun _ => List (Nat × Instr × Nat)) [] (fun x r ih => Bool.rec (motive := fun _ => List (Nat × Instr × Nat)) ih (x :: r) (Nat.beq x.1 t)) l
theorem zy_drop_eq (t : Nat) : ∀ l : List (Nat × Instr × Nat), zy_drop t l = zx_drop t l
  | [] => rfl
  | x :: r => by
    rw [zx_drop, ← zy_drop_eq t r]
    exact zy_beq
noncomputable def zy_sk (tbl nx : List (Nat × Instr × Nat)) (t : Nat) : List (Nat × Instr × Nat) := match nx with
  | [] => zy_drop t tbl
  | x :: _ => Bool.rec (motive := fun _ => List (Nat × Instr × Nat)) (zy_drop t tbl) nx (Nat.beq x.1 t)
theorem zy_sk_eq (tbl nx : List (Nat × Instr × Nat)) (t : Nat) : zy_sk tbl nx t = zx_sk tbl nx t := by
  cases nx with
  | nil => exact zy_drop_eq t tbl
  | cons x r =>
    show Bool.rec (motive := fun _ => List (Nat × Instr × Nat)) (zy_drop t tbl) (x :: r) (Nat.beq x.1 t) = if x.1 = t then x :: r else zx_drop t tbl
    rw [← zy_drop_eq t tbl]
    exact zy_beq
noncomputable def zy_on (tbl nx : List (Nat × Instr × Nat)) (ih : zx_Ih) (q : Nat × zx_T) : Option (List zx_Os) := ih (zy_sk tbl nx q.1) q.2.1 q.2.2.1 q.2.2.2.1 q.2.2.2.2.2 q.2.2.2.2.1
theorem zy_on_eq (tbl nx : List (Nat × Instr × Nat)) (ih : zx_Ih) : zy_on tbl nx ih = zx_on (fun _ => false) tbl nx ih := by
  funext q
  unfold zy_on zx_on
  rw [zy_sk_eq]
  rfl
noncomputable def zy_ex1 (Y : zx_Y) (dt : List (List Nat)) (rmt : List (Nat × Nat)) (md : zx_MD) (f : zx_Fn) (ih : zx_Ih) (x : Nat × Instr × Nat) (nx : List (Nat × Instr × Nat)) (G : zx_G) (h : List zx_C) (lv : List (Nat × zx_V)) (k : Nat × Nat) (sk : List zx_V) : Option (List zx_Os) := match zy_op md.2.1 Y dt x.1 x.2.1 with
  | some g => (match g G h lv k sk with
    | some z => zy_all (zy_on md.1 nx ih) z
    | none => none)
  | none => match zx_inv x.2.1 with
    | some ix => (match zy_call md.2.1 md.2.2.1 rmt f ix G h k sk with
      | some l => zy_all (fun q => zy_on md.1 nx ih (x.1 + 3, q.1, q.2.1, lv, q.2.2.1, q.2.2.2)) l
      | none => none)
    | none => if zx_isret x.2.1 = true then (if zx_le2 k (zx_mR md.2.1) = true then (match zx_retv x.2.1 md.2.2.2 G h sk with
        | some l => some (zx_lefts l)
        | none => none) else none) else none
theorem zy_op_some {M : zx_M} {Y : zx_Y} {dt : List (List Nat)} {pc : Nat} {i : Instr} {g : zy_F} (h : zy_op M Y dt pc i = some g) : zx_inv i = none ∧ zx_isret i = false := by
  cases i <;> first | exact ⟨rfl, rfl⟩ | cases h
theorem zy_ex1_eq {Y : zx_Y} {dt : List (List Nat)} {rmt : List (Nat × Nat)} {md : zx_MD} {f : zx_Fn} {ih : zx_Ih} {x : Nat × Instr × Nat} {nx : List (Nat × Instr × Nat)} {G : zx_G} {h : List zx_C} {lv : List (Nat × zx_V)} {k : Nat × Nat} {sk : List zx_V} : zy_ex1 Y dt rmt md f ih x nx G h lv k sk = zx_ex1 Y dt rmt (fun _ => false) md f ih x nx G h lv k sk := by
  have hop := zy_op_eq md.2.1 Y dt x.1 x.2.1 G h lv k sk
  unfold zy_ex1 zx_ex1
  rw [zy_on_eq, zy_call_eq]
  cases hg : zy_op md.2.1 Y dt x.1 x.2.1 with
  | some g =>
    obtain ⟨h1, h2⟩ := zy_op_some hg
    rw [hg] at hop
    have hop' : g G h lv k sk = zx_step md.2.1 Y dt x.1 x.2.1 G h lv k sk := hop
    simp only [h1, h2, hop', zy_all_eq]
    rfl
  | none =>
    rw [hg] at hop
    have hop' : none = zx_step md.2.1 Y dt x.1 x.2.1 G h lv k sk := hop
    simp only [zy_all_eq, ← hop']
    rfl
noncomputable def zy_ex (Y : zx_Y) (dt : List (List Nat)) (rmt : List (Nat × Nat)) (md : zx_MD) (f : zx_Fn) (n : Nat) : zx_Ih :=
  Nat.rec (motive := fun _ => zx_Ih) (fun _ _ _ _ _ _ => none)
    (fun _ ih cur G h lv k sk => List.rec (motive := fun _ => Option (List zx_Os)) none (fun x nx _ => zy_ex1 Y dt rmt md f ih x nx G h lv k sk) cur) n
theorem zy_ex_eq (Y : zx_Y) (dt : List (List Nat)) (rmt : List (Nat × Nat)) (md : zx_MD) (f : zx_Fn) (n : Nat) : zy_ex Y dt rmt md f n = zx_ex Y dt rmt (fun _ => false) md f n := by
  induction n with
  | zero => rfl
  | succ n ih =>
    funext cur G h lv k sk
    cases cur with
    | nil => rfl
    | cons x nx =>
      show zy_ex1 Y dt rmt md f (zy_ex Y dt rmt md f n) x nx G h lv k sk = zx_ex1 Y dt rmt (fun _ => false) md f (zx_ex Y dt rmt (fun _ => false) md f n) x nx G h lv k sk
      rw [ih, zy_ex1_eq]
noncomputable def zy_run (Y : zx_Y) (dt : List (List Nat)) (rmt : List (Nat × Nat)) (P : List (Option zx_MD)) (xf : zx_Fn) (fuel d : Nat) : zx_Fn :=
  Nat.rec (motive := fun _ => zx_Fn) (fun _ _ _ _ => none) (fun _ ih => zx_run1 Y dt rmt P xf (fun md => zy_ex Y dt rmt md ih fuel)) d
theorem zy_run_eq (Y : zx_Y) (dt : List (List Nat)) (rmt : List (Nat × Nat)) (P : List (Option zx_MD)) (xf : zx_Fn) (fuel d : Nat) : zy_run Y dt rmt P xf fuel d = zx_run Y dt rmt P xf fuel d := by
  induction d with
  | zero => rfl
  | succ d ih =>
    show zx_run1 Y dt rmt P xf (fun md => zy_ex Y dt rmt md (zy_run Y dt rmt P xf fuel d) fuel) = zx_run1 Y dt rmt P xf (fun md => zx_ex Y dt rmt (fun _ => false) md (zx_run Y dt rmt P xf fuel d) fuel)
    rw [ih]
    congr 1
    funext md
    exact zy_ex_eq Y dt rmt md _ fuel
noncomputable def zy_rm (Y : zx_Y) (dt : List (List Nat)) (rmt : List (Nat × Nat)) (P : List (Option zx_MD)) (xf : zx_Fn) (fuel d : Nat) : zx_Fn :=
  Nat.rec (motive := fun _ => zx_Fn) (fun _ _ _ _ => none) (fun _ ih j G h as => match xf j G h as with
    | some os => some os
    | none => zx_run1 Y dt rmt P (fun _ _ _ _ => none) (fun md => zy_ex Y dt rmt md ih fuel) j G h as) d
theorem zy_rm_eq (Y : zx_Y) (dt : List (List Nat)) (rmt : List (Nat × Nat)) (P : List (Option zx_MD)) (xf : zx_Fn) (fuel d : Nat) : zy_rm Y dt rmt P xf fuel d = zx_rm Y dt rmt P xf fuel d := by
  induction d with
  | zero => rfl
  | succ d ih =>
    funext j G h as
    show (match xf j G h as with
      | some os => some os
      | none => zx_run1 Y dt rmt P (fun _ _ _ _ => none) (fun md => zy_ex Y dt rmt md (zy_rm Y dt rmt P xf fuel d) fuel) j G h as) = _
    rw [zx_rm_s, ih]
    have : (fun md => zy_ex Y dt rmt md (zx_rm Y dt rmt P xf fuel d) fuel) = (fun md => zx_ex Y dt rmt (fun _ => false) md (zx_rm Y dt rmt P xf fuel d) fuel) := by
      funext md
      exact zy_ex_eq Y dt rmt md _ fuel
    rw [this]
    rfl
end
section
/-! zx: runs that are kept: their cells -/
def zx_zz : zx_S := .inl (.inl ([], 0))
def zx_oo : zx_S := .inl (.inl ([], 1))
def zx_mod (may was : List zx_S) : List zx_C := [.inl (11, [.inl (.inl ([], 0)), .inl (.inr (.inl ([65], false))), .inl (.inl ([], 0)), .inl (.inl ([], 0)), .inl (.inl ([], 0)), .inl (.inl ([], 0)), .inl (.inl ([], 0)), .inl (.inr (.inl ([66], false))), .inl (.inr (.inl ([67], false))), .inl (.inr (.inl ([68], false))), .inl (.inr (.inl ([69], false))), .inl (.inr (.inl ([70], false))), .inl (.inr (.inl ([71], false))), .inl (.inr (.inl ([72], false))), .inl (.inr (.inl ([73], false))), .inl (.inr (.inl ([74], false))), .inl (.inr (.inl ([75], false))), .inl (.inr (.inl ([76], false))), .inl (.inr (.inl ([77], false))), .inl (.inr (.inl ([78], false))), .inl (.inr (.inl ([79], false))), .inl (.inl ([], 0)), .inl (.inl ([], 0)), .inl (.inl ([], 24)), .inl (.inl ([], 168)), .inl (.inr (.inl ([80], false))), .inl (.inr (.inl ([81], false))), .inl (.inr (.inl ([82], false))), .inl (.inr (.inl ([83], false))), .inl (.inr (.inl ([84], false))), .inl (.inr (.inl ([85], false))), .inl (.inr (.inl ([86], false))), .inl (.inr (.inl ([87], false))), .inl (.inr (.inl ([88], false))), .inl (.inr (.inl ([89], false))), .inl (.inr (.inl ([90], false))), .inl (.inr (.inl ([91], false))), .inl (.inl ([], 0)), .inl (.inl ([], 0)), .inl (.inl ([], 0)), .inl (.inl ([], 0)), .inl (.inl ([], 0)), .inl (.inl ([], 0)), .inl (.inl ([], 0)), .inl (.inl ([], 0)), .inl (.inl ([], 0)), .inl (.inl ([], 0)), .inl (.inr (.inr true)), .inl (.inr (.inl ([92], false))), .inl (.inr (.inl ([93], false))), .inl (.inr (.inl ([94], false))), .inl (.inr (.inl ([95], false))), .inl (.inr (.inl ([96], false))), .inl (.inr (.inl ([97], false))), .inl (.inr (.inl ([98], false))), .inl (.inr (.inl ([99], false))), .inl (.inr (.inl ([100], false))), .inl (.inr (.inl ([101], false))), .inl (.inr (.inl ([102], false))), .inl (.inr (.inl ([103], false))), .inl (.inr (.inl ([104], false))), .inl (.inr (.inl ([105], false))), .inl (.inr (.inl ([106], false))), .inl (.inr (.inl ([107], false))), .inl (.inr (.inl ([108], false))), .inl (.inr (.inl ([109], false))), .inl (.inr (.inl ([110], false))), .inl (.inl ([], 0)), .inl (.inl ([], 0)), .inl (.inl ([], 0)), .inl (.inl ([], 0)), .inl (.inl ([], 0)), .inl (.inr (.inl ([111], false))), .inl (.inr (.inl ([112], false))), .inl (.inr (.inl ([113], false))), .inl (.inr (.inl ([114], false))), .inl (.inr (.inl ([115], false))), .inl (.inr (.inl ([116], false))), .inl (.inl ([], 0)), .inl (.inr (.inl ([117], false))), .inl (.inr (.inl ([118], false))), .inl (.inr (.inl ([119], false))), .inl (.inr (.inl ([120], false))), .inl (.inr (.inl ([121], false))), .inl (.inr (.inl ([122], false))), .inl (.inr (.inl ([123], false))), .inl (.inr (.inl ([124], false))), .inl (.inr (.inl ([125], false))), .inl (.inl ([], 0)), .inl (.inl ([], 0)), .inl (.inr (.inl ([126], false))), .inl (.inr (.inl ([127], false))), .inl (.inr (.inl ([128], false))), .inl (.inr (.inl ([129], false))), .inl (.inr (.inl ([130], false))), .inl (.inr (.inl ([131], false))), .inl (.inr (.inl ([132], false))), .inl (.inl ([], 0)), .inl (.inl ([], 0)), .inl (.inl ([], 0)), .inl (.inl ([], (-1)))]),
  .inr (.inl (1, 340, true, [.inr ((-128), 127)])),
  .inr (.inl (0, 9, true, [.inr ((-2147483648), 2147483647)])),
  .inr (.inl (0, 9, true, [.inr ((-2147483648), 2147483647)])),
  .inr (.inl (0, 9, true, [.inr ((-2147483648), 2147483647)])),
  .inr (.inl (0, 36, true, [.inr ((-2147483648), 2147483647)])),
  .inr (.inl (0, 9, true, [.inr ((-2147483648), 2147483647)])),
  .inr (.inl (0, 72, true, [.inr ((-2147483648), 2147483647)])),
  .inr (.inl (0, 72, true, [.inr ((-2147483648), 2147483647)])),
  .inr (.inl (0, 72, true, [.inr ((-2147483648), 2147483647)])),
  .inr (.inl (0, 72, true, [.inr ((-2147483648), 2147483647)])),
  .inr (.inl (2, 9, true, [.inr (0, 1)])),
  .inr (.inl (0, 20, true, [.inr ((-2147483648), 2147483647)])),
  .inr (.inl (0, 20, true, [.inr ((-2147483648), 2147483647)])),
  .inr (.inl (0, 20, true, [.inr ((-2147483648), 2147483647)])),
  .inr (.inl (0, 8, true, [.inr ((-2147483648), 2147483647)])),
  .inr (.inl (0, 84, true, [.inr ((-2147483648), 2147483647)])),
  .inr (.inl (0, 21, true, [.inr ((-2147483648), 2147483647)])),
  .inr (.inl (0, 126, true, [.inr ((-2147483648), 2147483647)])),
  .inr (.inl (0, 126, true, [.inr ((-2147483648), 2147483647)])),
  .inr (.inl (0, 21, true, [.inr ((-2147483648), 2147483647)])),
  .inr (.inl (0, 168, true, [.inr ((-2147483648), 2147483647)])),
  .inr (.inl (0, 168, true, [.inr ((-2147483648), 2147483647)])),
  .inr (.inl (0, 168, true, [.inr ((-2147483648), 2147483647)])),
  .inr (.inl (0, 2100, true, [.inr ((-2147483648), 2147483647)])),
  .inr (.inl (0, 2100, true, [.inr ((-2147483648), 2147483647)])),
  .inr (.inl (0, 2100, true, [.inr ((-2147483648), 2147483647)])),
  .inr (.inl (0, 64, true, [.inr ((-2147483648), 2147483647)])),
  .inr (.inl (0, 200, true, [.inr ((-2147483648), 2147483647)])),
  .inr (.inl (0, 200, true, [.inr ((-2147483648), 2147483647)])),
  .inr (.inl (0, 200, true, [.inr ((-2147483648), 2147483647)])),
  .inr (.inl (0, 200, true, [.inr ((-2147483648), 2147483647)])),
  .inr (.inl (0, 60, true, [.inr ((-2147483648), 2147483647)])),
  .inr (.inl (0, 60, true, [.inr ((-2147483648), 2147483647)])),
  .inr (.inl (0, 60, true, [.inr ((-2147483648), 2147483647)])),
  .inr (.inl (0, 60, true, [.inr ((-2147483648), 2147483647)])),
  .inr (.inl (0, 400, true, [.inr ((-2147483648), 2147483647)])),
  .inr (.inl (0, 400, true, [.inr ((-2147483648), 2147483647)])),
  .inr (.inl (0, 400, true, [.inr ((-2147483648), 2147483647)])),
  .inr (.inl (0, 400, true, [.inr ((-2147483648), 2147483647)])),
  .inr (.inl (0, 66, true, [.inr ((-2147483648), 2147483647)])),
  .inr (.inl (0, 66, true, [.inr ((-2147483648), 2147483647)])),
  .inr (.inl (0, 66, true, [.inr ((-2147483648), 2147483647)])),
  .inr (.inl (0, 66, true, [.inr ((-2147483648), 2147483647)])),
  .inr (.inl (0, 66, true, [.inr ((-2147483648), 2147483647)])),
  .inr (.inl (0, 66, true, [.inr ((-2147483648), 2147483647)])),
  .inr (.inl (2, 400, true, [.inr (0, 1)])),
  .inr (.inl (0, 528, true, [.inr ((-2147483648), 2147483647)])),
  .inr (.inl (0, 528, true, [.inr ((-2147483648), 2147483647)])),
  .inr (.inl (0, 528, true, [.inr ((-2147483648), 2147483647)])),
  .inr (.inl (0, 66, true, [.inr ((-2147483648), 2147483647)])),
  .inr (.inl (0, 66, true, [.inr ((-2147483648), 2147483647)])),
  .inr (.inl (0, 66, true, [.inr ((-2147483648), 2147483647)])),
  .inr (.inl (2, 64, true, [.inr (0, 1)])),
  .inr (.inl (2, 625, false, may)),
  .inr (.inl (2, 625, false, was)),
  .inr (.inl (2, 721, true, [.inr (0, 1)])),
  .inr (.inl (2, 66, true, [.inr (0, 1)])),
  .inr (.inl (0, 5200, true, [.inr ((-2147483648), 2147483647)])),
  .inr (.inl (0, 5200, true, [.inr ((-2147483648), 2147483647)])),
  .inr (.inl (0, 5200, true, [.inr ((-2147483648), 2147483647)])),
  .inr (.inl (2, 9504, true, [.inr (0, 1)])),
  .inr (.inl (0, 5200, true, [.inr ((-2147483648), 2147483647)])),
  .inr (.inl (0, 5200, true, [.inr ((-2147483648), 2147483647)])),
  .inr (.inl (0, 5200, true, [.inr ((-2147483648), 2147483647)])),
  .inr (.inl (0, 6, true, [.inr ((-2147483648), 2147483647)])),
  .inr (.inl (0, 6, true, [.inr ((-2147483648), 2147483647)])),
  .inr (.inl (0, 6, true, [.inr ((-2147483648), 2147483647)])),
  .inr (.inl (0, 6, true, [.inr ((-2147483648), 2147483647)]))]
def zx_row0 : List zx_S := [zx_zz, zx_zz, zx_zz, zx_zz, zx_zz, zx_zz, zx_zz, zx_zz, zx_zz, zx_zz, zx_zz, zx_zz, zx_zz, zx_zz, zx_zz, zx_zz, zx_zz, zx_zz, zx_zz, zx_zz, zx_zz, zx_zz, zx_zz, zx_zz, zx_zz, zx_zz, zx_zz, zx_zz, zx_zz, zx_zz, zx_zz, zx_zz, zx_zz, zx_zz, zx_zz, zx_zz, zx_zz, zx_zz, zx_zz, zx_zz, zx_zz, zx_zz, zx_zz, zx_zz, zx_zz, zx_zz, zx_zz, zx_zz, zx_zz, zx_zz, zx_zz, zx_zz, zx_zz, zx_zz, zx_zz, zx_zz, zx_zz, zx_zz, zx_zz, zx_zz, zx_zz, zx_zz, zx_zz, zx_zz, zx_zz, zx_zz, zx_zz, zx_zz, zx_zz, zx_zz, zx_zz, zx_zz, zx_zz, zx_zz, zx_zz, zx_zz, zx_zz, zx_zz, zx_zz, zx_zz, zx_zz, zx_zz, zx_zz, zx_zz, zx_zz, zx_zz, zx_zz, zx_zz, zx_zz, zx_zz, zx_zz, zx_zz, zx_zz, zx_zz, zx_zz, zx_zz, zx_zz, zx_zz, zx_zz, zx_zz, zx_zz, zx_zz, zx_zz, zx_zz, zx_zz, zx_zz, zx_zz, zx_zz, zx_zz, zx_zz, zx_zz, zx_zz, zx_zz, zx_zz, zx_zz, zx_zz, zx_zz, zx_zz, zx_zz, zx_zz, zx_zz, zx_zz, zx_zz, zx_zz, zx_zz, zx_zz, zx_zz, zx_zz, zx_zz, zx_zz, zx_zz, zx_zz, zx_zz, zx_zz, zx_zz, zx_zz, zx_zz, zx_zz, zx_zz, zx_zz, zx_zz, zx_zz, zx_zz, zx_zz, zx_zz, zx_zz, zx_zz, zx_zz, zx_zz, zx_zz, zx_zz, zx_zz, zx_zz, zx_zz, zx_zz, zx_zz, zx_zz, zx_zz, zx_zz, zx_zz, zx_zz, zx_zz, zx_zz, zx_zz, zx_zz, zx_zz, zx_zz, zx_zz, zx_zz, zx_zz, zx_zz, zx_zz, zx_zz, zx_zz, zx_zz, zx_zz, zx_zz, zx_zz, zx_zz, zx_zz, zx_zz, zx_zz, zx_zz, zx_zz, zx_zz, zx_zz, zx_zz, zx_zz, zx_zz, zx_zz, zx_zz, zx_zz, zx_zz, zx_zz, zx_zz, zx_zz, zx_zz, zx_zz, zx_zz, zx_zz, zx_zz, zx_zz, zx_zz, zx_zz, zx_zz, zx_zz, zx_zz, zx_zz, zx_zz, zx_zz, zx_zz, zx_zz, zx_zz, zx_zz, zx_zz, zx_zz, zx_zz, zx_zz, zx_zz, zx_zz, zx_zz, zx_zz, zx_zz, zx_zz, zx_zz, zx_zz, zx_zz, zx_zz, zx_zz, zx_zz, zx_zz, zx_zz, zx_zz, zx_zz, zx_zz, zx_zz, zx_zz, zx_zz, zx_zz, zx_zz, zx_zz, zx_zz, zx_zz, zx_zz, zx_zz, zx_zz, zx_zz, zx_zz, zx_zz, zx_zz, zx_zz, zx_zz, zx_zz, zx_zz, zx_zz, zx_zz, zx_zz, zx_zz, zx_zz, zx_zz, zx_zz, zx_zz, zx_zz, zx_zz, zx_zz, zx_zz, zx_zz, zx_zz, zx_zz, zx_zz, zx_zz, zx_zz, zx_zz, zx_zz, zx_zz, zx_zz, zx_zz, zx_zz, zx_zz, zx_zz, zx_zz, zx_zz, zx_zz, zx_zz, zx_zz, zx_zz, zx_zz, zx_zz, zx_zz, zx_zz, zx_zz, zx_zz, zx_zz, zx_zz, zx_zz, zx_zz, zx_zz, zx_zz, zx_zz, zx_zz, zx_zz, zx_zz, zx_zz, zx_zz, zx_zz, zx_zz, zx_zz, zx_zz, zx_zz, zx_zz, zx_zz, zx_zz, zx_zz, zx_zz, zx_zz, zx_zz, zx_zz, zx_zz, zx_zz, zx_zz, zx_zz, zx_zz, zx_zz, zx_zz, zx_zz, zx_zz, zx_zz, zx_zz, zx_zz, zx_zz, zx_zz, zx_zz, zx_zz, zx_zz, zx_zz, zx_zz, zx_zz, zx_zz, zx_zz, zx_zz, zx_zz, zx_zz, zx_zz, zx_zz, zx_zz, zx_zz, zx_zz, zx_zz, zx_zz, zx_zz, zx_zz, zx_zz, zx_zz, zx_zz, zx_zz, zx_zz, zx_zz, zx_zz, zx_zz, zx_zz, zx_zz, zx_zz, zx_zz, zx_zz, zx_zz, zx_zz, zx_zz, zx_zz, zx_zz, zx_zz, zx_zz, zx_zz, zx_zz, zx_zz, zx_zz, zx_zz, zx_zz, zx_zz, zx_zz, zx_zz, zx_zz, zx_zz, zx_zz, zx_zz, zx_zz, zx_zz, zx_zz, zx_zz, zx_zz, zx_zz, zx_zz, zx_zz, zx_zz, zx_zz, zx_zz, zx_zz, zx_zz, zx_zz, zx_zz, zx_zz, zx_zz, zx_zz, zx_zz, zx_zz, zx_zz, zx_zz, zx_zz, zx_zz, zx_zz, zx_zz, zx_zz, zx_zz, zx_zz, zx_zz, zx_zz, zx_zz, zx_zz, zx_zz, zx_zz, zx_zz, zx_zz, zx_zz, zx_zz, zx_zz, zx_zz, zx_zz, zx_zz, zx_zz, zx_zz, zx_zz, zx_zz, zx_zz, zx_zz, zx_zz, zx_zz, zx_zz, zx_zz, zx_zz, zx_zz, zx_zz, zx_zz, zx_zz, zx_zz, zx_zz, zx_zz, zx_zz, zx_zz, zx_zz, zx_zz, zx_zz, zx_zz, zx_zz, zx_zz, zx_zz, zx_zz, zx_zz, zx_zz, zx_zz, zx_zz, zx_zz, zx_zz, zx_zz, zx_zz, zx_zz, zx_zz, zx_zz, zx_zz, zx_zz, zx_zz, zx_zz, zx_zz, zx_zz, zx_zz, zx_zz, zx_zz, zx_zz, zx_zz, zx_zz, zx_zz, zx_zz, zx_zz, zx_zz, zx_zz, zx_zz, zx_zz, zx_zz, zx_zz, zx_zz, zx_zz, zx_zz, zx_zz, zx_zz, zx_zz, zx_zz, zx_zz, zx_zz, zx_zz, zx_zz, zx_zz, zx_zz, zx_zz, zx_zz, zx_zz, zx_zz, zx_zz, zx_zz, zx_zz, zx_zz, zx_zz, zx_zz, zx_zz, zx_zz, zx_zz, zx_zz, zx_zz, zx_zz, zx_zz, zx_zz, zx_zz, zx_zz, zx_zz, zx_zz, zx_zz, zx_zz, zx_zz, zx_zz, zx_zz, zx_zz, zx_zz, zx_zz, zx_zz, zx_zz, zx_zz, zx_zz, zx_zz, zx_zz, zx_zz, zx_zz, zx_zz, zx_zz, zx_zz, zx_zz, zx_zz, zx_zz, zx_zz, zx_zz, zx_zz, zx_zz, zx_zz, zx_zz, zx_zz, zx_zz, zx_zz, zx_zz, zx_zz, zx_zz, zx_zz, zx_zz, zx_zz, zx_zz, zx_zz, zx_zz, zx_zz, zx_zz, zx_zz, zx_zz, zx_zz, zx_zz, zx_zz, zx_zz, zx_zz, zx_zz, zx_zz, zx_zz, zx_zz, zx_zz, zx_zz, zx_zz, zx_zz, zx_zz, zx_zz, zx_zz, zx_zz, zx_zz, zx_zz, zx_zz, zx_zz, zx_zz, zx_zz, zx_zz, zx_zz, zx_zz, zx_zz, zx_zz, zx_zz, zx_zz, zx_zz, zx_zz, zx_zz, zx_zz, zx_zz, zx_zz, zx_zz, zx_zz, zx_zz, zx_zz, zx_zz, zx_zz, zx_zz, zx_zz, zx_zz, zx_zz, zx_zz, zx_zz, zx_zz, zx_zz, zx_zz, zx_zz, zx_zz, zx_zz, zx_zz, zx_zz, zx_zz, zx_zz, zx_zz]
def zx_row1 : List zx_S := [zx_zz, zx_zz, zx_zz, zx_zz, zx_zz, zx_zz, zx_zz, zx_zz, zx_zz, zx_zz, zx_zz, zx_zz, zx_zz, zx_zz, zx_zz, zx_zz, zx_zz, zx_zz, zx_zz, zx_zz, zx_zz, zx_zz, zx_zz, zx_zz, zx_zz, zx_zz, zx_zz, zx_zz, zx_zz, zx_zz, zx_zz, zx_zz, zx_zz, zx_zz, zx_zz, zx_zz, zx_zz, zx_zz, zx_zz, zx_zz, zx_zz, zx_zz, zx_zz, zx_zz, zx_zz, zx_zz, zx_zz, zx_zz, zx_zz, zx_zz, zx_zz, zx_zz, zx_zz, zx_zz, zx_zz, zx_zz, zx_zz, zx_zz, zx_zz, zx_zz, zx_zz, zx_zz, zx_zz, zx_zz, zx_zz, zx_zz, zx_zz, zx_zz, zx_zz, zx_zz, zx_zz, zx_zz, zx_zz, zx_zz, zx_zz, zx_zz, zx_zz, zx_zz, zx_zz, zx_zz, zx_zz, zx_zz, zx_zz, zx_zz, zx_zz, zx_zz, zx_zz, zx_zz, zx_zz, zx_zz, zx_zz, zx_zz, zx_zz, zx_zz, zx_zz, zx_zz, zx_zz, zx_zz, zx_zz, zx_zz, zx_zz, zx_zz, zx_zz, zx_zz, zx_zz, zx_zz, zx_zz, zx_zz, zx_zz, zx_zz, zx_zz, zx_zz, zx_zz, zx_zz, zx_zz, zx_zz, zx_zz, zx_zz, zx_zz, zx_zz, zx_zz, zx_zz, zx_zz, zx_zz, zx_zz, zx_zz, zx_zz, zx_zz, zx_zz, zx_zz, zx_zz, zx_zz, zx_zz, zx_zz, zx_zz, zx_zz, zx_zz, zx_zz, zx_zz, zx_zz, zx_zz, zx_zz, zx_zz, zx_zz, zx_zz, zx_zz, zx_zz, zx_zz, zx_zz, zx_zz, zx_zz, zx_zz, zx_zz, zx_zz, zx_zz, zx_zz, zx_zz, zx_zz, zx_zz, zx_zz, zx_zz, zx_zz, zx_zz, zx_zz, zx_zz, zx_zz, zx_zz, zx_zz, zx_zz, zx_zz, zx_zz, zx_zz, zx_zz, zx_zz, zx_zz, zx_zz, zx_zz, zx_zz, zx_zz, zx_zz, zx_zz, zx_zz, zx_zz, zx_zz, zx_zz, zx_zz, zx_zz, zx_zz, zx_zz, zx_zz, zx_zz, zx_zz, zx_zz, zx_zz, zx_zz, zx_zz, zx_zz, zx_zz, zx_zz, zx_zz, zx_zz, zx_zz, zx_zz, zx_zz, zx_zz, zx_zz, zx_zz, zx_zz, zx_zz, zx_zz, zx_zz, zx_zz, zx_zz, zx_zz, zx_zz, zx_zz, zx_zz, zx_zz, zx_zz, zx_zz, zx_zz, zx_zz, zx_zz, zx_zz, zx_zz, zx_zz, zx_zz, zx_zz, zx_zz, zx_zz, zx_zz, zx_zz, zx_zz, zx_zz, zx_zz, zx_zz, zx_zz, zx_zz, zx_zz, zx_zz, zx_zz, zx_zz, zx_zz, zx_zz, zx_zz, zx_zz, zx_zz, zx_zz, zx_zz, zx_zz, zx_zz, zx_zz, zx_zz, zx_zz, zx_zz, zx_zz, zx_zz, zx_zz, zx_zz, zx_zz, zx_zz, zx_zz, zx_zz, zx_zz, zx_zz, zx_zz, zx_zz, zx_zz, zx_zz, zx_zz, zx_zz, zx_zz, zx_zz, zx_zz, zx_zz, zx_zz, zx_zz, zx_zz, zx_zz, zx_zz, zx_zz, zx_zz, zx_zz, zx_zz, zx_zz, zx_zz, zx_zz, zx_zz, zx_zz, zx_zz, zx_zz, zx_zz, zx_zz, zx_zz, zx_zz, zx_zz, zx_zz, zx_zz, zx_zz, zx_zz, zx_zz, zx_zz, zx_zz, zx_zz, zx_zz, zx_zz, zx_zz, zx_zz, zx_zz, zx_zz, zx_zz, zx_zz, zx_zz, zx_zz, zx_zz, zx_zz, zx_zz, zx_zz, zx_zz, zx_zz, zx_zz, zx_zz, zx_zz, zx_zz, zx_zz, zx_zz, zx_zz, zx_zz, zx_zz, zx_zz, zx_zz, zx_zz, zx_zz, zx_zz, zx_zz, zx_zz, zx_zz, zx_zz, zx_zz, zx_zz, zx_zz, zx_zz, zx_zz, zx_zz, zx_zz, zx_zz, zx_zz, zx_zz, zx_zz, zx_zz, zx_zz, zx_zz, zx_zz, zx_zz, zx_zz, zx_zz, zx_zz, zx_zz, zx_zz, zx_zz, zx_zz, zx_zz, zx_zz, zx_zz, zx_zz, zx_zz, zx_zz, zx_zz, zx_zz, zx_zz, zx_zz, zx_zz, zx_zz, zx_zz, zx_zz, zx_zz, zx_zz, zx_zz, zx_zz, zx_zz, zx_zz, zx_zz, zx_zz, zx_zz, zx_zz, zx_zz, zx_zz, zx_zz, zx_zz, zx_zz, zx_zz, zx_zz, zx_zz, zx_zz, zx_zz, zx_zz, zx_zz, zx_zz, zx_zz, zx_zz, zx_zz, zx_zz, zx_zz, zx_zz, zx_zz, zx_zz, zx_zz, zx_zz, zx_zz, zx_zz, zx_zz, zx_zz, zx_zz, zx_zz, zx_zz, zx_zz, zx_zz, zx_zz, zx_zz, zx_zz, zx_zz, zx_zz, zx_zz, zx_zz, zx_zz, zx_zz, zx_zz, zx_zz, zx_zz, zx_zz, zx_oo, zx_zz, zx_zz, zx_zz, zx_zz, zx_zz, zx_zz, zx_zz, zx_zz, zx_zz, zx_zz, zx_zz, zx_zz, zx_zz, zx_zz, zx_zz, zx_zz, zx_zz, zx_zz, zx_zz, zx_zz, zx_zz, zx_zz, zx_zz, zx_zz, zx_zz, zx_zz, zx_zz, zx_zz, zx_zz, zx_zz, zx_zz, zx_zz, zx_zz, zx_zz, zx_zz, zx_zz, zx_zz, zx_zz, zx_zz, zx_zz, zx_zz, zx_zz, zx_zz, zx_zz, zx_zz, zx_zz, zx_zz, zx_zz, zx_zz, zx_zz, zx_zz, zx_zz, zx_zz, zx_zz, zx_zz, zx_zz, zx_zz, zx_zz, zx_zz, zx_zz, zx_zz, zx_zz, zx_zz, zx_zz, zx_zz, zx_zz, zx_zz, zx_zz, zx_zz, zx_zz, zx_zz, zx_zz, zx_zz, zx_zz, zx_zz, zx_zz, zx_zz, zx_zz, zx_zz, zx_zz, zx_zz, zx_zz, zx_zz, zx_zz, zx_zz, zx_zz, zx_zz, zx_zz, zx_zz, zx_zz, zx_zz, zx_zz, zx_zz, zx_zz, zx_zz, zx_zz, zx_zz, zx_zz, zx_zz, zx_zz, zx_zz, zx_zz, zx_zz, zx_zz, zx_zz, zx_zz, zx_zz, zx_zz, zx_zz, zx_zz, zx_zz, zx_zz, zx_zz, zx_zz, zx_zz, zx_zz, zx_zz, zx_zz, zx_zz, zx_zz, zx_zz, zx_zz, zx_zz, zx_zz, zx_zz, zx_zz, zx_zz, zx_zz, zx_zz, zx_zz, zx_zz, zx_zz, zx_zz, zx_zz, zx_zz, zx_zz, zx_zz, zx_zz, zx_zz, zx_zz, zx_zz, zx_zz, zx_zz, zx_zz, zx_zz, zx_zz, zx_zz, zx_zz, zx_zz, zx_zz, zx_zz, zx_zz, zx_zz, zx_zz, zx_zz, zx_zz, zx_zz, zx_zz, zx_zz, zx_zz, zx_zz, zx_zz, zx_zz, zx_zz, zx_zz, zx_zz, zx_zz, zx_zz, zx_zz, zx_zz, zx_zz, zx_zz, zx_zz, zx_zz, zx_zz, zx_zz, zx_zz, zx_zz, zx_zz, zx_zz, zx_zz, zx_zz, zx_zz, zx_zz, zx_zz, zx_zz, zx_zz, zx_zz, zx_zz, zx_zz, zx_zz, zx_zz, zx_zz, zx_zz]
def zx_row2 : List zx_S := [zx_zz, zx_zz, zx_zz, zx_zz, zx_zz, zx_zz, zx_zz, zx_zz, zx_zz, zx_zz, zx_zz, zx_zz, zx_zz, zx_zz, zx_zz, zx_zz, zx_zz, zx_zz, zx_zz, zx_zz, zx_zz, zx_zz, zx_zz, zx_zz, zx_zz, zx_zz, zx_zz, zx_zz, zx_zz, zx_zz, zx_zz, zx_zz, zx_zz, zx_zz, zx_zz, zx_zz, zx_zz, zx_zz, zx_zz, zx_zz, zx_zz, zx_zz, zx_zz, zx_zz, zx_zz, zx_zz, zx_zz, zx_zz, zx_zz, zx_zz, zx_zz, zx_zz, zx_zz, zx_zz, zx_zz, zx_zz, zx_zz, zx_zz, zx_zz, zx_zz, zx_zz, zx_zz, zx_zz, zx_zz, zx_zz, zx_zz, zx_zz, zx_zz, zx_zz, zx_zz, zx_zz, zx_zz, zx_zz, zx_zz, zx_zz, zx_zz, zx_zz, zx_zz, zx_zz, zx_zz, zx_zz, zx_zz, zx_zz, zx_zz, zx_zz, zx_zz, zx_zz, zx_zz, zx_zz, zx_zz, zx_zz, zx_zz, zx_zz, zx_zz, zx_zz, zx_zz, zx_zz, zx_zz, zx_zz, zx_zz, zx_zz, zx_zz, zx_zz, zx_zz, zx_zz, zx_zz, zx_zz, zx_zz, zx_zz, zx_zz, zx_zz, zx_zz, zx_zz, zx_zz, zx_zz, zx_zz, zx_zz, zx_zz, zx_zz, zx_zz, zx_zz, zx_zz, zx_zz, zx_zz, zx_zz, zx_zz, zx_zz, zx_zz, zx_zz, zx_zz, zx_zz, zx_zz, zx_zz, zx_zz, zx_zz, zx_zz, zx_zz, zx_zz, zx_zz, zx_zz, zx_zz, zx_zz, zx_zz, zx_zz, zx_zz, zx_zz, zx_zz, zx_zz, zx_zz, zx_zz, zx_zz, zx_zz, zx_zz, zx_zz, zx_zz, zx_zz, zx_zz, zx_zz, zx_zz, zx_zz, zx_zz, zx_zz, zx_zz, zx_zz, zx_zz, zx_zz, zx_zz, zx_zz, zx_zz, zx_zz, zx_zz, zx_zz, zx_zz, zx_zz, zx_zz, zx_zz, zx_zz, zx_zz, zx_zz, zx_zz, zx_zz, zx_zz, zx_zz, zx_zz, zx_zz, zx_zz, zx_zz, zx_zz, zx_zz, zx_zz, zx_zz, zx_zz, zx_zz, zx_zz, zx_zz, zx_zz, zx_zz, zx_zz, zx_zz, zx_zz, zx_zz, zx_zz, zx_zz, zx_zz, zx_zz, zx_zz, zx_zz, zx_zz, zx_zz, zx_zz, zx_zz, zx_zz, zx_zz, zx_zz, zx_zz, zx_zz, zx_zz, zx_zz, zx_zz, zx_zz, zx_zz, zx_zz, zx_zz, zx_zz, zx_zz, zx_zz, zx_zz, zx_zz, zx_zz, zx_zz, zx_zz, zx_zz, zx_zz, zx_zz, zx_zz, zx_zz, zx_zz, zx_zz, zx_zz, zx_zz, zx_zz, zx_zz, zx_zz, zx_zz, zx_zz, zx_zz, zx_zz, zx_zz, zx_zz, zx_zz, zx_zz, zx_zz, zx_zz, zx_zz, zx_zz, zx_zz, zx_zz, zx_zz, zx_zz, zx_zz, zx_zz, zx_zz, zx_zz, zx_zz, zx_zz, zx_zz, zx_zz, zx_zz, zx_zz, zx_zz, zx_zz, zx_zz, zx_zz, zx_zz, zx_zz, zx_zz, zx_zz, zx_zz, zx_zz, zx_zz, zx_zz, zx_zz, zx_zz, zx_zz, zx_zz, zx_zz, zx_zz, zx_zz, zx_zz, zx_zz, zx_zz, zx_zz, zx_zz, zx_zz, zx_zz, zx_zz, zx_zz, zx_zz, zx_zz, zx_zz, zx_zz, zx_zz, zx_zz, zx_zz, zx_zz, zx_zz, zx_zz, zx_zz, zx_zz, zx_zz, zx_zz, zx_zz, zx_zz, zx_zz, zx_zz, zx_zz, zx_zz, zx_zz, zx_zz, zx_zz, zx_zz, zx_zz, zx_zz, zx_zz, zx_zz, zx_zz, zx_zz, zx_zz, zx_zz, zx_zz, zx_zz, zx_zz, zx_zz, zx_zz, zx_zz, zx_zz, zx_zz, zx_zz, zx_zz, zx_zz, zx_zz, zx_zz, zx_zz, zx_zz, zx_zz, zx_zz, zx_zz, zx_zz, zx_zz, zx_zz, zx_zz, zx_zz, zx_zz, zx_zz, zx_zz, zx_zz, zx_zz, zx_zz, zx_zz, zx_zz, zx_zz, zx_zz, zx_zz, zx_zz, zx_zz, zx_zz, zx_zz, zx_zz, zx_zz, zx_zz, zx_zz, zx_zz, zx_zz, zx_zz, zx_zz, zx_zz, zx_zz, zx_zz, zx_zz, zx_zz, zx_zz, zx_zz, zx_zz, zx_zz, zx_zz, zx_zz, zx_zz, zx_zz, zx_zz, zx_zz, zx_zz, zx_zz, zx_zz, zx_zz, zx_zz, zx_zz, zx_zz, zx_zz, zx_zz, zx_zz, zx_zz, zx_zz, zx_zz, zx_zz, zx_zz, zx_zz, zx_zz, zx_zz, zx_zz, zx_zz, zx_zz, zx_zz, zx_zz, zx_zz, zx_zz, zx_zz, zx_zz, zx_zz, zx_zz, zx_zz, zx_zz, zx_zz, zx_zz, zx_zz, zx_zz, zx_zz, zx_zz, zx_zz, zx_zz, zx_zz, zx_oo, zx_zz, zx_zz, zx_zz, zx_zz, zx_zz, zx_zz, zx_zz, zx_zz, zx_zz, zx_zz, zx_zz, zx_zz, zx_zz, zx_zz, zx_oo, zx_zz, zx_zz, zx_zz, zx_zz, zx_zz, zx_zz, zx_zz, zx_zz, zx_zz, zx_zz, zx_zz, zx_zz, zx_zz, zx_zz, zx_zz, zx_zz, zx_zz, zx_zz, zx_zz, zx_zz, zx_zz, zx_zz, zx_zz, zx_zz, zx_zz, zx_zz, zx_zz, zx_zz, zx_zz, zx_zz, zx_zz, zx_zz, zx_zz, zx_zz, zx_zz, zx_zz, zx_zz, zx_zz, zx_zz, zx_zz, zx_zz, zx_zz, zx_zz, zx_zz, zx_zz, zx_zz, zx_zz, zx_zz, zx_zz, zx_zz, zx_zz, zx_zz, zx_zz, zx_zz, zx_zz, zx_zz, zx_zz, zx_zz, zx_zz, zx_zz, zx_zz, zx_zz, zx_zz, zx_zz, zx_zz, zx_zz, zx_zz, zx_zz, zx_zz, zx_zz, zx_zz, zx_zz, zx_zz, zx_zz, zx_zz, zx_zz, zx_zz, zx_zz, zx_zz, zx_zz, zx_zz, zx_zz, zx_zz, zx_zz, zx_zz, zx_zz, zx_zz, zx_zz, zx_zz, zx_zz, zx_zz, zx_zz, zx_zz, zx_zz, zx_zz, zx_zz, zx_zz, zx_zz, zx_zz, zx_zz, zx_zz, zx_zz, zx_zz, zx_zz, zx_zz, zx_zz, zx_zz, zx_zz, zx_zz, zx_oo, zx_zz, zx_zz, zx_zz, zx_zz, zx_zz, zx_zz, zx_zz, zx_zz, zx_zz, zx_zz, zx_zz, zx_zz, zx_zz, zx_zz, zx_zz, zx_zz, zx_zz, zx_zz, zx_zz, zx_zz, zx_zz, zx_zz, zx_zz, zx_zz, zx_zz, zx_zz, zx_zz, zx_zz, zx_zz, zx_zz, zx_zz, zx_zz, zx_zz, zx_zz, zx_zz, zx_zz, zx_zz, zx_zz, zx_zz, zx_zz, zx_zz, zx_zz, zx_zz, zx_zz, zx_zz, zx_zz, zx_zz, zx_zz, zx_zz, zx_zz, zx_zz, zx_zz, zx_zz, zx_zz, zx_zz, zx_zz, zx_zz, zx_zz, zx_zz, zx_zz, zx_zz, zx_zz, zx_zz, zx_zz, zx_zz, zx_zz, zx_zz, zx_zz, zx_zz]
def zx_row3 : List zx_S := [zx_zz, zx_zz, zx_zz, zx_zz, zx_zz, zx_zz, zx_zz, zx_zz, zx_zz, zx_zz, zx_zz, zx_zz, zx_zz, zx_zz, zx_zz, zx_zz, zx_zz, zx_zz, zx_zz, zx_zz, zx_zz, zx_zz, zx_zz, zx_zz, zx_zz, zx_zz, zx_zz, zx_zz, zx_zz, zx_zz, zx_zz, zx_zz, zx_zz, zx_zz, zx_zz, zx_zz, zx_zz, zx_zz, zx_zz, zx_zz, zx_zz, zx_zz, zx_zz, zx_zz, zx_zz, zx_zz, zx_zz, zx_zz, zx_zz, zx_zz, zx_zz, zx_zz, zx_zz, zx_zz, zx_zz, zx_zz, zx_zz, zx_zz, zx_zz, zx_zz, zx_zz, zx_zz, zx_zz, zx_zz, zx_zz, zx_zz, zx_zz, zx_zz, zx_zz, zx_zz, zx_zz, zx_zz, zx_zz, zx_zz, zx_zz, zx_zz, zx_zz, zx_zz, zx_zz, zx_zz, zx_zz, zx_zz, zx_zz, zx_zz, zx_zz, zx_zz, zx_zz, zx_zz, zx_zz, zx_zz, zx_zz, zx_zz, zx_zz, zx_zz, zx_zz, zx_zz, zx_zz, zx_zz, zx_zz, zx_zz, zx_zz, zx_zz, zx_zz, zx_zz, zx_zz, zx_zz, zx_zz, zx_zz, zx_zz, zx_zz, zx_zz, zx_zz, zx_zz, zx_zz, zx_zz, zx_zz, zx_zz, zx_zz, zx_zz, zx_zz, zx_zz, zx_zz, zx_zz, zx_zz, zx_zz, zx_zz, zx_zz, zx_zz, zx_zz, zx_zz, zx_zz, zx_zz, zx_zz, zx_zz, zx_zz, zx_zz, zx_zz, zx_zz, zx_zz, zx_zz, zx_zz, zx_zz, zx_zz, zx_zz, zx_zz, zx_zz, zx_zz, zx_zz, zx_zz, zx_zz, zx_zz, zx_zz, zx_zz, zx_zz, zx_zz, zx_zz, zx_zz, zx_zz, zx_zz, zx_zz, zx_zz, zx_zz, zx_zz, zx_zz, zx_zz, zx_zz, zx_zz, zx_zz, zx_zz, zx_zz, zx_zz, zx_zz, zx_zz, zx_zz, zx_zz, zx_zz, zx_zz, zx_zz, zx_zz, zx_zz, zx_zz, zx_zz, zx_zz, zx_zz, zx_zz, zx_zz, zx_zz, zx_zz, zx_zz, zx_zz, zx_zz, zx_zz, zx_zz, zx_zz, zx_zz, zx_zz, zx_zz, zx_zz, zx_zz, zx_zz, zx_zz, zx_zz, zx_zz, zx_zz, zx_zz, zx_zz, zx_zz, zx_zz, zx_zz, zx_zz, zx_zz, zx_zz, zx_zz, zx_zz, zx_zz, zx_zz, zx_zz, zx_zz, zx_zz, zx_zz, zx_zz, zx_zz, zx_zz, zx_zz, zx_zz, zx_zz, zx_zz, zx_zz, zx_zz, zx_zz, zx_zz, zx_zz, zx_zz, zx_zz, zx_zz, zx_zz, zx_zz, zx_zz, zx_zz, zx_zz, zx_zz, zx_zz, zx_zz, zx_zz, zx_zz, zx_zz, zx_zz, zx_zz, zx_zz, zx_zz, zx_zz, zx_zz, zx_zz, zx_zz, zx_zz, zx_zz, zx_zz, zx_zz, zx_zz, zx_zz, zx_zz, zx_zz, zx_zz, zx_zz, zx_zz, zx_zz, zx_zz, zx_zz, zx_zz, zx_zz, zx_zz, zx_zz, zx_zz, zx_zz, zx_zz, zx_zz, zx_zz, zx_zz, zx_zz, zx_zz, zx_zz, zx_zz, zx_zz, zx_zz, zx_zz, zx_zz, zx_zz, zx_zz, zx_zz, zx_zz, zx_zz, zx_zz, zx_zz, zx_zz, zx_zz, zx_zz, zx_zz, zx_zz, zx_zz, zx_zz, zx_zz, zx_zz, zx_zz, zx_zz, zx_zz, zx_zz, zx_zz, zx_zz, zx_zz, zx_zz, zx_zz, zx_zz, zx_zz, zx_zz, zx_zz, zx_zz, zx_zz, zx_zz, zx_zz, zx_zz, zx_zz, zx_zz, zx_zz, zx_zz, zx_zz, zx_zz, zx_zz, zx_zz, zx_zz, zx_zz, zx_zz, zx_zz, zx_zz, zx_zz, zx_zz, zx_zz, zx_zz, zx_zz, zx_zz, zx_zz, zx_zz, zx_zz, zx_zz, zx_zz, zx_zz, zx_zz, zx_zz, zx_zz, zx_zz, zx_zz, zx_zz, zx_zz, zx_zz, zx_zz, zx_zz, zx_zz, zx_zz, zx_zz, zx_zz, zx_zz, zx_zz, zx_zz, zx_zz, zx_zz, zx_zz, zx_zz, zx_zz, zx_zz, zx_zz, zx_zz, zx_zz, zx_zz, zx_zz, zx_zz, zx_zz, zx_zz, zx_zz, zx_zz, zx_zz, zx_zz, zx_zz, zx_zz, zx_zz, zx_zz, zx_zz, zx_zz, zx_zz, zx_zz, zx_zz, zx_zz, zx_zz, zx_zz, zx_zz, zx_zz, zx_zz, zx_zz, zx_zz, zx_zz, zx_zz, zx_zz, zx_zz, zx_zz, zx_zz, zx_zz, zx_zz, zx_zz, zx_zz, zx_zz, zx_zz, zx_zz, zx_zz, zx_zz, zx_zz, zx_zz, zx_zz, zx_zz, zx_zz, zx_zz, zx_zz, zx_zz, zx_zz, zx_zz, zx_zz, zx_zz, zx_zz, zx_zz, zx_zz, zx_zz, zx_zz, zx_zz, zx_oo, zx_zz, zx_zz, zx_zz, zx_zz, zx_zz, zx_zz, zx_zz, zx_zz, zx_zz, zx_zz, zx_zz, zx_zz, zx_zz, zx_zz, zx_oo, zx_oo, zx_zz, zx_zz, zx_zz, zx_zz, zx_zz, zx_zz, zx_zz, zx_zz, zx_zz, zx_zz, zx_zz, zx_zz, zx_zz, zx_zz, zx_zz, zx_zz, zx_zz, zx_zz, zx_zz, zx_zz, zx_zz, zx_zz, zx_zz, zx_zz, zx_zz, zx_zz, zx_zz, zx_zz, zx_zz, zx_zz, zx_zz, zx_zz, zx_zz, zx_zz, zx_zz, zx_zz, zx_zz, zx_zz, zx_zz, zx_zz, zx_zz, zx_zz, zx_zz, zx_zz, zx_zz, zx_zz, zx_zz, zx_zz, zx_zz, zx_zz, zx_zz, zx_zz, zx_zz, zx_zz, zx_zz, zx_zz, zx_zz, zx_zz, zx_zz, zx_zz, zx_zz, zx_zz, zx_zz, zx_zz, zx_zz, zx_zz, zx_zz, zx_zz, zx_zz, zx_zz, zx_zz, zx_zz, zx_zz, zx_zz, zx_zz, zx_zz, zx_zz, zx_zz, zx_zz, zx_zz, zx_zz, zx_zz, zx_zz, zx_zz, zx_zz, zx_zz, zx_zz, zx_zz, zx_zz, zx_zz, zx_zz, zx_zz, zx_zz, zx_zz, zx_zz, zx_zz, zx_zz, zx_zz, zx_zz, zx_zz, zx_zz, zx_zz, zx_zz, zx_zz, zx_zz, zx_zz, zx_zz, zx_zz, zx_oo, zx_zz, zx_zz, zx_oo, zx_zz, zx_zz, zx_zz, zx_zz, zx_zz, zx_zz, zx_zz, zx_zz, zx_zz, zx_zz, zx_zz, zx_zz, zx_zz, zx_zz, zx_zz, zx_zz, zx_zz, zx_zz, zx_zz, zx_zz, zx_zz, zx_zz, zx_zz, zx_zz, zx_zz, zx_zz, zx_zz, zx_zz, zx_zz, zx_zz, zx_zz, zx_zz, zx_zz, zx_zz, zx_zz, zx_zz, zx_zz, zx_zz, zx_zz, zx_zz, zx_zz, zx_zz, zx_zz, zx_zz, zx_zz, zx_zz, zx_zz, zx_zz, zx_zz, zx_zz, zx_zz, zx_zz, zx_zz, zx_zz, zx_zz, zx_zz, zx_zz, zx_zz, zx_zz, zx_zz, zx_zz, zx_zz, zx_zz, zx_zz, zx_zz, zx_zz]
def zx_row4 : List zx_S := [zx_zz, zx_zz, zx_zz, zx_zz, zx_zz, zx_zz, zx_zz, zx_zz, zx_zz, zx_zz, zx_zz, zx_zz, zx_zz, zx_zz, zx_zz, zx_zz, zx_zz, zx_zz, zx_zz, zx_zz, zx_zz, zx_zz, zx_zz, zx_zz, zx_zz, zx_zz, zx_zz, zx_zz, zx_zz, zx_zz, zx_zz, zx_zz, zx_zz, zx_zz, zx_zz, zx_zz, zx_zz, zx_zz, zx_zz, zx_zz, zx_zz, zx_zz, zx_zz, zx_zz, zx_zz, zx_zz, zx_zz, zx_zz, zx_zz, zx_zz, zx_zz, zx_zz, zx_zz, zx_zz, zx_zz, zx_zz, zx_zz, zx_zz, zx_zz, zx_zz, zx_zz, zx_zz, zx_zz, zx_zz, zx_zz, zx_zz, zx_zz, zx_zz, zx_zz, zx_zz, zx_zz, zx_oo, zx_zz, zx_zz, zx_zz, zx_zz, zx_zz, zx_zz, zx_zz, zx_zz, zx_zz, zx_zz, zx_zz, zx_zz, zx_zz, zx_zz, zx_zz, zx_zz, zx_zz, zx_zz, zx_zz, zx_zz, zx_zz, zx_zz, zx_zz, zx_zz, zx_zz, zx_zz, zx_zz, zx_zz, zx_zz, zx_zz, zx_zz, zx_zz, zx_zz, zx_zz, zx_zz, zx_zz, zx_zz, zx_zz, zx_zz, zx_zz, zx_zz, zx_zz, zx_zz, zx_zz, zx_zz, zx_zz, zx_zz, zx_zz, zx_zz, zx_zz, zx_zz, zx_zz, zx_zz, zx_zz, zx_zz, zx_zz, zx_zz, zx_zz, zx_zz, zx_zz, zx_zz, zx_zz, zx_zz, zx_zz, zx_zz, zx_zz, zx_zz, zx_zz, zx_zz, zx_zz, zx_zz, zx_zz, zx_zz, zx_zz, zx_zz, zx_zz, zx_zz, zx_zz, zx_zz, zx_zz, zx_zz, zx_zz, zx_zz, zx_zz, zx_zz, zx_zz, zx_zz, zx_zz, zx_zz, zx_zz, zx_zz, zx_zz, zx_zz, zx_zz, zx_zz, zx_zz, zx_zz, zx_zz, zx_zz, zx_zz, zx_zz, zx_zz, zx_zz, zx_zz, zx_zz, zx_zz, zx_zz, zx_zz, zx_zz, zx_zz, zx_zz, zx_zz, zx_zz, zx_zz, zx_zz, zx_zz, zx_zz, zx_zz, zx_zz, zx_zz, zx_zz, zx_zz, zx_zz, zx_zz, zx_zz, zx_zz, zx_zz, zx_zz, zx_zz, zx_zz, zx_zz, zx_zz, zx_zz, zx_zz, zx_zz, zx_zz, zx_zz, zx_zz, zx_zz, zx_zz, zx_zz, zx_zz, zx_zz, zx_zz, zx_zz, zx_zz, zx_zz, zx_zz, zx_zz, zx_zz, zx_zz, zx_zz, zx_zz, zx_zz, zx_zz, zx_zz, zx_zz, zx_zz, zx_zz, zx_zz, zx_zz, zx_zz, zx_zz, zx_zz, zx_zz, zx_zz, zx_zz, zx_zz, zx_zz, zx_zz, zx_zz, zx_zz, zx_zz, zx_zz, zx_zz, zx_zz, zx_zz, zx_zz, zx_zz, zx_zz, zx_zz, zx_zz, zx_zz, zx_zz, zx_zz, zx_zz, zx_zz, zx_zz, zx_zz, zx_zz, zx_zz, zx_zz, zx_zz, zx_zz, zx_zz, zx_zz, zx_zz, zx_zz, zx_zz, zx_zz, zx_zz, zx_zz, zx_zz, zx_zz, zx_zz, zx_zz, zx_zz, zx_zz, zx_zz, zx_zz, zx_zz, zx_zz, zx_zz, zx_zz, zx_zz, zx_zz, zx_zz, zx_zz, zx_zz, zx_zz, zx_zz, zx_zz, zx_zz, zx_zz, zx_zz, zx_zz, zx_zz, zx_zz, zx_zz, zx_zz, zx_zz, zx_zz, zx_zz, zx_zz, zx_zz, zx_zz, zx_zz, zx_zz, zx_zz, zx_zz, zx_zz, zx_zz, zx_zz, zx_zz, zx_zz, zx_zz, zx_zz, zx_zz, zx_zz, zx_zz, zx_zz, zx_zz, zx_zz, zx_zz, zx_zz, zx_zz, zx_zz, zx_zz, zx_zz, zx_zz, zx_zz, zx_zz, zx_zz, zx_zz, zx_zz, zx_zz, zx_zz, zx_zz, zx_zz, zx_zz, zx_zz, zx_zz, zx_zz, zx_zz, zx_zz, zx_zz, zx_zz, zx_zz, zx_zz, zx_zz, zx_zz, zx_zz, zx_zz, zx_zz, zx_zz, zx_zz, zx_zz, zx_zz, zx_zz, zx_zz, zx_zz, zx_zz, zx_zz, zx_zz, zx_zz, zx_zz, zx_zz, zx_zz, zx_zz, zx_zz, zx_zz, zx_zz, zx_zz, zx_zz, zx_zz, zx_zz, zx_zz, zx_zz, zx_zz, zx_zz, zx_zz, zx_zz, zx_zz, zx_zz, zx_zz, zx_zz, zx_zz, zx_zz, zx_zz, zx_zz, zx_zz, zx_zz, zx_zz, zx_zz, zx_oo, zx_zz, zx_zz, zx_zz, zx_zz, zx_zz, zx_zz, zx_zz, zx_zz, zx_zz, zx_zz, zx_zz, zx_zz, zx_zz, zx_zz, zx_zz, zx_zz, zx_zz, zx_zz, zx_zz, zx_zz, zx_zz, zx_zz, zx_zz, zx_zz, zx_zz, zx_zz, zx_zz, zx_zz, zx_zz, zx_zz, zx_zz, zx_zz, zx_zz, zx_oo, zx_zz, zx_zz, zx_zz, zx_zz, zx_zz, zx_zz, zx_zz, zx_zz, zx_zz, zx_zz, zx_zz, zx_zz, zx_zz, zx_zz, zx_oo, zx_oo, zx_zz, zx_zz, zx_zz, zx_zz, zx_zz, zx_zz, zx_zz, zx_zz, zx_zz, zx_zz, zx_zz, zx_zz, zx_zz, zx_zz, zx_zz, zx_zz, zx_zz, zx_zz, zx_zz, zx_zz, zx_zz, zx_zz, zx_zz, zx_zz, zx_zz, zx_zz, zx_zz, zx_zz, zx_zz, zx_zz, zx_zz, zx_zz, zx_zz, zx_zz, zx_zz, zx_zz, zx_zz, zx_zz, zx_zz, zx_zz, zx_zz, zx_zz, zx_zz, zx_zz, zx_zz, zx_zz, zx_zz, zx_zz, zx_zz, zx_zz, zx_zz, zx_zz, zx_zz, zx_zz, zx_zz, zx_zz, zx_zz, zx_zz, zx_zz, zx_zz, zx_zz, zx_oo, zx_zz, zx_zz, zx_zz, zx_zz, zx_zz, zx_zz, zx_zz, zx_zz, zx_zz, zx_zz, zx_zz, zx_zz, zx_zz, zx_zz, zx_zz, zx_zz, zx_zz, zx_zz, zx_zz, zx_zz, zx_zz, zx_zz, zx_zz, zx_zz, zx_zz, zx_zz, zx_zz, zx_zz, zx_zz, zx_zz, zx_zz, zx_zz, zx_zz, zx_zz, zx_zz, zx_zz, zx_zz, zx_zz, zx_zz, zx_zz, zx_zz, zx_zz, zx_zz, zx_zz, zx_oo, zx_zz, zx_oo, zx_zz, zx_zz, zx_oo, zx_zz, zx_zz, zx_zz, zx_zz, zx_zz, zx_zz, zx_zz, zx_zz, zx_zz, zx_zz, zx_zz, zx_zz, zx_zz, zx_zz, zx_zz, zx_zz, zx_zz, zx_zz, zx_zz, zx_zz, zx_zz, zx_zz, zx_zz, zx_zz, zx_zz, zx_zz, zx_zz, zx_zz, zx_zz, zx_zz, zx_zz, zx_zz, zx_zz, zx_zz, zx_zz, zx_zz, zx_zz, zx_zz, zx_zz, zx_zz, zx_zz, zx_zz, zx_zz, zx_zz, zx_zz, zx_zz, zx_zz, zx_zz, zx_zz, zx_zz, zx_zz, zx_zz, zx_zz, zx_zz, zx_zz, zx_zz, zx_zz, zx_zz, zx_zz, zx_zz, zx_zz, zx_zz, zx_zz, zx_zz, zx_zz, zx_zz]
noncomputable def zx_fk : zx_Fn := zy_run zx_Yt zx_dt zx_rmt zx_Pt zx_xf0 20000 4
def zx_en0 : zx_En := (39, [.inl (8, [.inl (.inr (.inl ([65], false))), .inl (.inr (.inl ([66], false))), .inl (.inl ([], 0))]), .inr (.inl (2, 625, false, zx_row0)), .inr (.inl (0, 120, false, List.replicate 120 (.inl (.inl ([], 0)))))], [.inr (.inl ([64], false))], [.inl (8, [.inl (.inr (.inl ([65], false))), .inl (.inr (.inl ([66], false))), .inl (.inl ([], 1))]), .inr (.inl (2, 625, false, zx_row1)), .inr (.inl (0, 120, false, [.inl (.inl ([], 430))] ++ (List.replicate 119 (.inl (.inl ([], 0))))))], none)
def zx_en1 : zx_En := (41, [.inl (8, [.inl (.inr (.inl ([65], false))), .inl (.inr (.inl ([66], false))), .inl (.inl ([], 1))]), .inr (.inl (2, 625, false, zx_row1)), .inr (.inl (0, 120, false, [.inl (.inl ([], 430))] ++ (List.replicate 119 (.inl (.inl ([], 0))))))], [.inr (.inl ([64], false)), .inl ([], 1)], [.inl (8, [.inl (.inr (.inl ([65], false))), .inl (.inr (.inl ([66], false))), .inl (.inl ([], 3))]), .inr (.inl (2, 625, false, zx_row2)), .inr (.inl (0, 120, false, [.inl (.inl ([], 430)), .inl (.inl ([], 445)), .inl (.inl ([], 555))] ++ (List.replicate 117 (.inl (.inl ([], 0))))))], none)
def zx_en2 : zx_En := (45, [.inl (8, [.inl (.inr (.inl ([65], false))), .inl (.inr (.inl ([66], false))), .inl (.inl ([], 3))]), .inr (.inl (2, 625, false, zx_row2)), .inr (.inl (0, 120, false, [.inl (.inl ([], 430)), .inl (.inl ([], 445)), .inl (.inl ([], 555))] ++ (List.replicate 117 (.inl (.inl ([], 0))))))], [.inr (.inl ([64], false)), .inl ([], 3)], [.inl (8, [.inl (.inr (.inl ([65], false))), .inl (.inr (.inl ([66], false))), .inl (.inl ([], 3))]), .inr (.inl (2, 625, false, zx_row2)), .inr (.inl (0, 120, false, [.inl (.inl ([], 430)), .inl (.inl ([], 445)), .inl (.inl ([], 555))] ++ (List.replicate 117 (.inl (.inl ([], 0))))))], (some (.inl ([], 0))))
def zx_en3 : zx_En := (41, [.inl (8, [.inl (.inr (.inl ([65], false))), .inl (.inr (.inl ([66], false))), .inl (.inl ([], 3))]), .inr (.inl (2, 625, false, zx_row2)), .inr (.inl (0, 120, false, [.inl (.inl ([], 430)), .inl (.inl ([], 445)), .inl (.inl ([], 555))] ++ (List.replicate 117 (.inl (.inl ([], 0))))))], [.inr (.inl ([64], false)), .inl ([], 1)], [.inl (8, [.inl (.inr (.inl ([65], false))), .inl (.inr (.inl ([66], false))), .inl (.inl ([], 5))]), .inr (.inl (2, 625, false, zx_row3)), .inr (.inl (0, 120, false, [.inl (.inl ([], 430)), .inl (.inl ([], 445)), .inl (.inl ([], 555)), .inl (.inl ([], 446)), .inl (.inl ([], 558))] ++ (List.replicate 115 (.inl (.inl ([], 0))))))], none)
def zx_en4 : zx_En := (45, [.inl (8, [.inl (.inr (.inl ([65], false))), .inl (.inr (.inl ([66], false))), .inl (.inl ([], 5))]), .inr (.inl (2, 625, false, zx_row3)), .inr (.inl (0, 120, false, [.inl (.inl ([], 430)), .inl (.inl ([], 445)), .inl (.inl ([], 555)), .inl (.inl ([], 446)), .inl (.inl ([], 558))] ++ (List.replicate 115 (.inl (.inl ([], 0))))))], [.inr (.inl ([64], false)), .inl ([], 3)], [.inl (8, [.inl (.inr (.inl ([65], false))), .inl (.inr (.inl ([66], false))), .inl (.inl ([], 5))]), .inr (.inl (2, 625, false, zx_row3)), .inr (.inl (0, 120, false, [.inl (.inl ([], 430)), .inl (.inl ([], 445)), .inl (.inl ([], 555)), .inl (.inl ([], 446)), .inl (.inl ([], 558))] ++ (List.replicate 115 (.inl (.inl ([], 0))))))], (some (.inl ([], 0))))
def zx_en5 : zx_En := (41, [.inl (8, [.inl (.inr (.inl ([65], false))), .inl (.inr (.inl ([66], false))), .inl (.inl ([], 5))]), .inr (.inl (2, 625, false, zx_row3)), .inr (.inl (0, 120, false, [.inl (.inl ([], 430)), .inl (.inl ([], 445)), .inl (.inl ([], 555)), .inl (.inl ([], 446)), .inl (.inl ([], 558))] ++ (List.replicate 115 (.inl (.inl ([], 0))))))], [.inr (.inl ([64], false)), .inl ([], 1)], [.inl (8, [.inl (.inr (.inl ([65], false))), .inl (.inr (.inl ([66], false))), .inl (.inl ([], 9))]), .inr (.inl (2, 625, false, zx_row4)), .inr (.inl (0, 120, false, [.inl (.inl ([], 430)), .inl (.inl ([], 445)), .inl (.inl ([], 555)), .inl (.inl ([], 446)), .inl (.inl ([], 558)), .inl (.inl ([], 396)), .inl (.inl ([], 71)), .inl (.inl ([], 553)), .inl (.inl ([], 508))] ++ (List.replicate 111 (.inl (.inl ([], 0))))))], none)
def zx_en6 : zx_En := (45, [.inl (8, [.inl (.inr (.inl ([65], false))), .inl (.inr (.inl ([66], false))), .inl (.inl ([], 9))]), .inr (.inl (2, 625, false, zx_row4)), .inr (.inl (0, 120, false, [.inl (.inl ([], 430)), .inl (.inl ([], 445)), .inl (.inl ([], 555)), .inl (.inl ([], 446)), .inl (.inl ([], 558)), .inl (.inl ([], 396)), .inl (.inl ([], 71)), .inl (.inl ([], 553)), .inl (.inl ([], 508))] ++ (List.replicate 111 (.inl (.inl ([], 0))))))], [.inr (.inl ([64], false)), .inl ([], 3)], [.inl (8, [.inl (.inr (.inl ([65], false))), .inl (.inr (.inl ([66], false))), .inl (.inl ([], 9))]), .inr (.inl (2, 625, false, zx_row4)), .inr (.inl (0, 120, false, [.inl (.inl ([], 430)), .inl (.inl ([], 445)), .inl (.inl ([], 555)), .inl (.inl ([], 446)), .inl (.inl ([], 558)), .inl (.inl ([], 396)), .inl (.inl ([], 71)), .inl (.inl ([], 553)), .inl (.inl ([], 508))] ++ (List.replicate 111 (.inl (.inl ([], 0))))))], (some (.inl ([], 1))))
def zx_en7 : zx_En := (45, [.inl (8, [.inl (.inr (.inl ([65], false))), .inl (.inr (.inl ([66], false))), .inl (.inl ([], 3))]), .inr (.inl (2, 625, false, zx_row2)), .inr (.inl (0, 120, false, [.inl (.inl ([], 430)), .inl (.inl ([], 445)), .inl (.inl ([], 555))] ++ (List.replicate 117 (.inl (.inl ([], 0))))))], [.inr (.inl ([64], false)), .inl ([], 2)], [.inl (8, [.inl (.inr (.inl ([65], false))), .inl (.inr (.inl ([66], false))), .inl (.inl ([], 3))]), .inr (.inl (2, 625, false, zx_row2)), .inr (.inl (0, 120, false, [.inl (.inl ([], 430)), .inl (.inl ([], 445)), .inl (.inl ([], 555))] ++ (List.replicate 117 (.inl (.inl ([], 0))))))], (some (.inl ([], 0))))
def zx_en8 : zx_En := (45, [.inl (8, [.inl (.inr (.inl ([65], false))), .inl (.inr (.inl ([66], false))), .inl (.inl ([], 5))]), .inr (.inl (2, 625, false, zx_row3)), .inr (.inl (0, 120, false, [.inl (.inl ([], 430)), .inl (.inl ([], 445)), .inl (.inl ([], 555)), .inl (.inl ([], 446)), .inl (.inl ([], 558))] ++ (List.replicate 115 (.inl (.inl ([], 0))))))], [.inr (.inl ([64], false)), .inl ([], 2)], [.inl (8, [.inl (.inr (.inl ([65], false))), .inl (.inr (.inl ([66], false))), .inl (.inl ([], 5))]), .inr (.inl (2, 625, false, zx_row3)), .inr (.inl (0, 120, false, [.inl (.inl ([], 430)), .inl (.inl ([], 445)), .inl (.inl ([], 555)), .inl (.inl ([], 446)), .inl (.inl ([], 558))] ++ (List.replicate 115 (.inl (.inl ([], 0))))))], (some (.inl ([], 0))))
def zx_en9 : zx_En := (45, [.inl (8, [.inl (.inr (.inl ([65], false))), .inl (.inr (.inl ([66], false))), .inl (.inl ([], 9))]), .inr (.inl (2, 625, false, zx_row4)), .inr (.inl (0, 120, false, [.inl (.inl ([], 430)), .inl (.inl ([], 445)), .inl (.inl ([], 555)), .inl (.inl ([], 446)), .inl (.inl ([], 558)), .inl (.inl ([], 396)), .inl (.inl ([], 71)), .inl (.inl ([], 553)), .inl (.inl ([], 508))] ++ (List.replicate 111 (.inl (.inl ([], 0))))))], [.inr (.inl ([64], false)), .inl ([], 2)], [.inl (8, [.inl (.inr (.inl ([65], false))), .inl (.inr (.inl ([66], false))), .inl (.inl ([], 9))]), .inr (.inl (2, 625, false, zx_row4)), .inr (.inl (0, 120, false, [.inl (.inl ([], 430)), .inl (.inl ([], 445)), .inl (.inl ([], 555)), .inl (.inl ([], 446)), .inl (.inl ([], 558)), .inl (.inl ([], 396)), .inl (.inl ([], 71)), .inl (.inl ([], 553)), .inl (.inl ([], 508))] ++ (List.replicate 111 (.inl (.inl ([], 0))))))], (some (.inl ([], 1))))
def zx_en10 : zx_En := (45, [.inl (8, [.inl (.inr (.inl ([65], false))), .inl (.inr (.inl ([66], false))), .inl (.inl ([], 3))]), .inr (.inl (2, 625, false, zx_row2)), .inr (.inl (0, 120, false, [.inl (.inl ([], 430)), .inl (.inl ([], 445)), .inl (.inl ([], 555))] ++ (List.replicate 117 (.inl (.inl ([], 0))))))], [.inr (.inl ([64], false)), .inl ([], 1)], [.inl (8, [.inl (.inr (.inl ([65], false))), .inl (.inr (.inl ([66], false))), .inl (.inl ([], 3))]), .inr (.inl (2, 625, false, zx_row2)), .inr (.inl (0, 120, false, [.inl (.inl ([], 430)), .inl (.inl ([], 445)), .inl (.inl ([], 555))] ++ (List.replicate 117 (.inl (.inl ([], 0))))))], (some (.inl ([], 0))))
def zx_en11 : zx_En := (45, [.inl (8, [.inl (.inr (.inl ([65], false))), .inl (.inr (.inl ([66], false))), .inl (.inl ([], 5))]), .inr (.inl (2, 625, false, zx_row3)), .inr (.inl (0, 120, false, [.inl (.inl ([], 430)), .inl (.inl ([], 445)), .inl (.inl ([], 555)), .inl (.inl ([], 446)), .inl (.inl ([], 558))] ++ (List.replicate 115 (.inl (.inl ([], 0))))))], [.inr (.inl ([64], false)), .inl ([], 1)], [.inl (8, [.inl (.inr (.inl ([65], false))), .inl (.inr (.inl ([66], false))), .inl (.inl ([], 5))]), .inr (.inl (2, 625, false, zx_row3)), .inr (.inl (0, 120, false, [.inl (.inl ([], 430)), .inl (.inl ([], 445)), .inl (.inl ([], 555)), .inl (.inl ([], 446)), .inl (.inl ([], 558))] ++ (List.replicate 115 (.inl (.inl ([], 0))))))], (some (.inl ([], 0))))
def zx_en12 : zx_En := (45, [.inl (8, [.inl (.inr (.inl ([65], false))), .inl (.inr (.inl ([66], false))), .inl (.inl ([], 9))]), .inr (.inl (2, 625, false, zx_row4)), .inr (.inl (0, 120, false, [.inl (.inl ([], 430)), .inl (.inl ([], 445)), .inl (.inl ([], 555)), .inl (.inl ([], 446)), .inl (.inl ([], 558)), .inl (.inl ([], 396)), .inl (.inl ([], 71)), .inl (.inl ([], 553)), .inl (.inl ([], 508))] ++ (List.replicate 111 (.inl (.inl ([], 0))))))], [.inr (.inl ([64], false)), .inl ([], 1)], [.inl (8, [.inl (.inr (.inl ([65], false))), .inl (.inr (.inl ([66], false))), .inl (.inl ([], 9))]), .inr (.inl (2, 625, false, zx_row4)), .inr (.inl (0, 120, false, [.inl (.inl ([], 430)), .inl (.inl ([], 445)), .inl (.inl ([], 555)), .inl (.inl ([], 446)), .inl (.inl ([], 558)), .inl (.inl ([], 396)), .inl (.inl ([], 71)), .inl (.inl ([], 553)), .inl (.inl ([], 508))] ++ (List.replicate 111 (.inl (.inl ([], 0))))))], (some (.inl ([], 1))))
def zx_en13 : zx_En := (91, zx_mod zx_row0 zx_row0, [.inr (.inl ([64], false))], zx_mod zx_row1 zx_row0, none)
def zx_en14 : zx_En := (92, zx_mod zx_row1 zx_row0, [.inr (.inl ([64], false)), .inl ([], 0)], zx_mod zx_row1 zx_row0, (some (.inl ([], 1))))
def zx_en15 : zx_En := (92, zx_mod zx_row1 zx_row0, [.inr (.inl ([64], false)), .inl ([], 1)], zx_mod zx_row1 zx_row0, (some (.inl ([], 0))))
def zx_en16 : zx_En := (94, zx_mod zx_row1 zx_row0, [.inr (.inl ([64], false))], zx_mod zx_row2 zx_row1, (some (.inl ([], 1))))
def zx_en17 : zx_En := (92, zx_mod zx_row2 zx_row1, [.inr (.inl ([64], false)), .inl ([], 1)], zx_mod zx_row2 zx_row1, (some (.inl ([], 0))))
def zx_en18 : zx_En := (94, zx_mod zx_row2 zx_row1, [.inr (.inl ([64], false))], zx_mod zx_row3 zx_row2, (some (.inl ([], 1))))
def zx_en19 : zx_En := (92, zx_mod zx_row3 zx_row2, [.inr (.inl ([64], false)), .inl ([], 1)], zx_mod zx_row3 zx_row2, (some (.inl ([], 0))))
def zx_en20 : zx_En := (94, zx_mod zx_row3 zx_row2, [.inr (.inl ([64], false))], zx_mod zx_row4 zx_row3, (some (.inl ([], 1))))
def zx_en21 : zx_En := (92, zx_mod zx_row4 zx_row3, [.inr (.inl ([64], false)), .inl ([], 1)], zx_mod zx_row4 zx_row3, (some (.inl ([], 1))))
def zx_en22 : zx_En := (92, zx_mod zx_row1 zx_row0, [.inr (.inl ([64], false)), .inl ([], 2)], zx_mod zx_row1 zx_row0, (some (.inl ([], 0))))
def zx_en23 : zx_En := (92, zx_mod zx_row2 zx_row1, [.inr (.inl ([64], false)), .inl ([], 2)], zx_mod zx_row2 zx_row1, (some (.inl ([], 0))))
def zx_en24 : zx_En := (92, zx_mod zx_row3 zx_row2, [.inr (.inl ([64], false)), .inl ([], 2)], zx_mod zx_row3 zx_row2, (some (.inl ([], 0))))
def zx_en25 : zx_En := (92, zx_mod zx_row4 zx_row3, [.inr (.inl ([64], false)), .inl ([], 2)], zx_mod zx_row4 zx_row3, (some (.inl ([], 1))))
def zx_en26 : zx_En := (92, zx_mod zx_row1 zx_row0, [.inr (.inl ([64], false)), .inl ([], 3)], zx_mod zx_row1 zx_row0, (some (.inl ([], 0))))
def zx_en27 : zx_En := (92, zx_mod zx_row2 zx_row1, [.inr (.inl ([64], false)), .inl ([], 3)], zx_mod zx_row2 zx_row1, (some (.inl ([], 0))))
def zx_en28 : zx_En := (92, zx_mod zx_row3 zx_row2, [.inr (.inl ([64], false)), .inl ([], 3)], zx_mod zx_row3 zx_row2, (some (.inl ([], 0))))
def zx_en29 : zx_En := (92, zx_mod zx_row4 zx_row3, [.inr (.inl ([64], false)), .inl ([], 3)], zx_mod zx_row4 zx_row3, (some (.inl ([], 1))))
def zx_en30 : zx_En := (35, [.inr (.inl (0, 480, true, [.inr ((-2147483648), 2147483647)]))], [.inr (.inl ([64], false)), .inl ([], (-1))], [.inr (.inl (0, 480, true, [.inr ((-2147483648), 2147483647)]))], none)
def zx_en31 : zx_En := (35, [.inr (.inl (0, 1200, true, [.inr ((-2147483648), 2147483647)]))], [.inr (.inl ([64], false)), .inl ([], 0)], [.inr (.inl (0, 1200, true, [.inr ((-2147483648), 2147483647)]))], none)
def zx_en32 : zx_En := (35, [.inr (.inl (0, 20, true, [.inr ((-2147483648), 2147483647)]))], [.inr (.inl ([64], false)), .inl ([], 0)], [.inr (.inl (0, 20, true, [.inr ((-2147483648), 2147483647)]))], none)
def zx_en33 : zx_En := (35, [.inr (.inl (0, 1440, true, [.inr ((-2147483648), 2147483647)]))], [.inr (.inl ([64], false)), .inl ([], 0)], [.inr (.inl (0, 1440, true, [.inr ((-2147483648), 2147483647)]))], none)
def zx_en34 : zx_En := (35, [.inr (.inl (0, 60, true, [.inr ((-2147483648), 2147483647)]))], [.inr (.inl ([64], false)), .inl ([], 0)], [.inr (.inl (0, 60, true, [.inr ((-2147483648), 2147483647)]))], none)
def zx_en35 : zx_En := (35, [.inr (.inl (0, 480, true, [.inr ((-2147483648), 2147483647)]))], [.inr (.inl ([64], false)), .inl ([], 0)], [.inr (.inl (0, 480, true, [.inr ((-2147483648), 2147483647)]))], none)
def zx_en36 : zx_En := (98, [.inl (11, [.inl (.inl ([], 0)), .inl (.inr (.inl ([65], false))), .inl (.inl ([], 0)), .inl (.inl ([], 0)), .inl (.inl ([], 0)), .inl (.inl ([], 0)), .inl (.inl ([], 0)), .inl (.inr (.inl ([66], false))), .inl (.inr (.inl ([67], false))), .inl (.inr (.inl ([68], false))), .inl (.inr (.inl ([69], false))), .inl (.inr (.inl ([70], false))), .inl (.inr (.inl ([71], false))), .inl (.inr (.inl ([72], false))), .inl (.inr (.inl ([73], false))), .inl (.inr (.inl ([74], false))), .inl (.inr (.inl ([75], false))), .inl (.inr (.inl ([76], false))), .inl (.inr (.inl ([77], false))), .inl (.inr (.inl ([78], false))), .inl (.inr (.inl ([79], false))), .inl (.inl ([], 0)), .inl (.inl ([], 0)), .inl (.inl ([], 24)), .inl (.inl ([], 168)), .inl (.inr (.inl ([80], false))), .inl (.inr (.inl ([81], false))), .inl (.inr (.inl ([82], false))), .inl (.inr (.inl ([83], false))), .inl (.inr (.inl ([84], false))), .inl (.inr (.inl ([85], false))), .inl (.inr (.inl ([86], false))), .inl (.inr (.inl ([87], false))), .inl (.inr (.inl ([88], false))), .inl (.inr (.inl ([89], false))), .inl (.inr (.inl ([90], false))), .inl (.inr (.inl ([91], false))), .inl (.inl ([], 0)), .inl (.inl ([], 0)), .inl (.inl ([], 0)), .inl (.inl ([], 0)), .inl (.inl ([], 0)), .inl (.inl ([], 0)), .inl (.inl ([], 0)), .inl (.inl ([], 0)), .inl (.inl ([], 0)), .inl (.inl ([], 0)), .inl (.inr (.inr true)), .inl (.inr (.inl ([92], false))), .inl (.inr (.inl ([93], false))), .inl (.inr (.inl ([94], false))), .inl (.inr (.inl ([95], false))), .inl (.inr (.inl ([96], false))), .inl (.inr (.inl ([97], false))), .inl (.inr (.inl ([98], false))), .inl (.inr (.inl ([99], false))), .inl (.inr (.inl ([100], false))), .inl (.inr (.inl ([101], false))), .inl (.inr (.inl ([102], false))), .inl (.inr (.inl ([103], false))), .inl (.inr (.inl ([104], false))), .inl (.inr (.inl ([105], false))), .inl (.inr (.inl ([106], false))), .inl (.inr (.inl ([107], false))), .inl (.inr (.inl ([108], false))), .inl (.inr (.inl ([109], false))), .inl (.inr (.inl ([110], false))), .inl (.inl ([], 0)), .inl (.inl ([], 0)), .inl (.inl ([], 0)), .inl (.inl ([], 0)), .inl (.inl ([], 0)), .inl (.inr (.inl ([111], false))), .inl (.inr (.inl ([112], false))), .inl (.inr (.inl ([113], false))), .inl (.inr (.inl ([114], false))), .inl (.inr (.inl ([115], false))), .inl (.inr (.inl ([116], false))), .inr ((-2147483648), 2147483647), .inl (.inr (.inl ([117], false))), .inl (.inr (.inl ([118], false))), .inl (.inr (.inl ([119], false))), .inl (.inr (.inl ([120], false))), .inl (.inr (.inl ([121], false))), .inl (.inr (.inl ([122], false))), .inl (.inr (.inl ([123], false))), .inl (.inr (.inl ([124], false))), .inl (.inr (.inl ([125], false))), .inl (.inl ([], 0)), .inl (.inl ([], 0)), .inl (.inr (.inl ([126], false))), .inl (.inr (.inl ([127], false))), .inl (.inr (.inl ([128], false))), .inl (.inr (.inl ([129], false))), .inl (.inr (.inl ([130], false))), .inl (.inr (.inl ([131], false))), .inl (.inr (.inl ([132], false))), .inl (.inl ([], 0)), .inl (.inl ([], 0)), .inl (.inl ([], 0)), .inl (.inl ([], (-1)))]),
  .inr (.inl (1, 340, true, [.inr ((-128), 127)])),
  .inr (.inl (0, 9, true, [.inr ((-2147483648), 2147483647)])),
  .inr (.inl (0, 9, true, [.inr ((-2147483648), 2147483647)])),
  .inr (.inl (0, 9, true, [.inr ((-2147483648), 2147483647)])),
  .inr (.inl (0, 36, true, [.inr ((-2147483648), 2147483647)])),
  .inr (.inl (0, 9, true, [.inr ((-2147483648), 2147483647)])),
  .inr (.inl (0, 72, true, [.inr ((-2147483648), 2147483647)])),
  .inr (.inl (0, 72, true, [.inr ((-2147483648), 2147483647)])),
  .inr (.inl (0, 72, true, [.inr ((-2147483648), 2147483647)])),
  .inr (.inl (0, 72, true, [.inr ((-2147483648), 2147483647)])),
  .inr (.inl (2, 9, true, [.inr (0, 1)])),
  .inr (.inl (0, 20, true, [.inr ((-2147483648), 2147483647)])),
  .inr (.inl (0, 20, true, [.inr ((-2147483648), 2147483647)])),
  .inr (.inl (0, 20, true, [.inr ((-2147483648), 2147483647)])),
  .inr (.inl (0, 8, true, [.inr ((-2147483648), 2147483647)])),
  .inr (.inl (0, 84, true, [.inr ((-2147483648), 2147483647)])),
  .inr (.inl (0, 21, true, [.inr ((-2147483648), 2147483647)])),
  .inr (.inl (0, 126, true, [.inr ((-2147483648), 2147483647)])),
  .inr (.inl (0, 126, true, [.inr ((-2147483648), 2147483647)])),
  .inr (.inl (0, 21, true, [.inr ((-2147483648), 2147483647)])),
  .inr (.inl (0, 168, true, [.inr ((-2147483648), 2147483647)])),
  .inr (.inl (0, 168, true, [.inr ((-2147483648), 2147483647)])),
  .inr (.inl (0, 168, true, [.inr ((-2147483648), 2147483647)])),
  .inr (.inl (0, 2100, true, [.inr ((-2147483648), 2147483647)])),
  .inr (.inl (0, 2100, true, [.inr ((-2147483648), 2147483647)])),
  .inr (.inl (0, 2100, true, [.inr ((-2147483648), 2147483647)])),
  .inr (.inl (0, 64, true, [.inr ((-2147483648), 2147483647)])),
  .inr (.inl (0, 200, true, [.inr ((-2147483648), 2147483647)])),
  .inr (.inl (0, 200, true, [.inr ((-2147483648), 2147483647)])),
  .inr (.inl (0, 200, true, [.inr ((-2147483648), 2147483647)])),
  .inr (.inl (0, 200, true, [.inr ((-2147483648), 2147483647)])),
  .inr (.inl (0, 60, true, [.inr ((-2147483648), 2147483647)])),
  .inr (.inl (0, 60, true, [.inr ((-2147483648), 2147483647)])),
  .inr (.inl (0, 60, true, [.inr ((-2147483648), 2147483647)])),
  .inr (.inl (0, 60, true, [.inr ((-2147483648), 2147483647)])),
  .inr (.inl (0, 400, true, [.inr ((-2147483648), 2147483647)])),
  .inr (.inl (0, 400, true, [.inr ((-2147483648), 2147483647)])),
  .inr (.inl (0, 400, true, [.inr ((-2147483648), 2147483647)])),
  .inr (.inl (0, 400, true, [.inr ((-2147483648), 2147483647)])),
  .inr (.inl (0, 66, true, [.inr ((-2147483648), 2147483647)])),
  .inr (.inl (0, 66, true, [.inr ((-2147483648), 2147483647)])),
  .inr (.inl (0, 66, true, [.inr ((-2147483648), 2147483647)])),
  .inr (.inl (0, 66, true, [.inr ((-2147483648), 2147483647)])),
  .inr (.inl (0, 66, true, [.inr ((-2147483648), 2147483647)])),
  .inr (.inl (0, 66, true, [.inr ((-2147483648), 2147483647)])),
  .inr (.inl (2, 400, true, [.inr (0, 1)])),
  .inr (.inl (0, 528, true, [.inr ((-2147483648), 2147483647)])),
  .inr (.inl (0, 528, true, [.inr ((-2147483648), 2147483647)])),
  .inr (.inl (0, 528, true, [.inr ((-2147483648), 2147483647)])),
  .inr (.inl (0, 66, true, [.inr ((-2147483648), 2147483647)])),
  .inr (.inl (0, 66, true, [.inr ((-2147483648), 2147483647)])),
  .inr (.inl (0, 66, true, [.inr ((-2147483648), 2147483647)])),
  .inr (.inl (2, 64, true, [.inr (0, 1)])),
  .inr (.inl (2, 625, false, zx_row0)),
  .inr (.inl (2, 625, false, zx_row0)),
  .inr (.inl (2, 721, true, [.inr (0, 1)])),
  .inr (.inl (2, 66, true, [.inr (0, 1)])),
  .inr (.inl (0, 5200, true, [.inr ((-2147483648), 2147483647)])),
  .inr (.inl (0, 5200, true, [.inr ((-2147483648), 2147483647)])),
  .inr (.inl (0, 5200, true, [.inr ((-2147483648), 2147483647)])),
  .inr (.inl (2, 9504, true, [.inr (0, 1)])),
  .inr (.inl (0, 5200, true, [.inr ((-2147483648), 2147483647)])),
  .inr (.inl (0, 5200, true, [.inr ((-2147483648), 2147483647)])),
  .inr (.inl (0, 5200, true, [.inr ((-2147483648), 2147483647)])),
  .inr (.inl (0, 6, true, [.inr ((-2147483648), 2147483647)])),
  .inr (.inl (0, 6, true, [.inr ((-2147483648), 2147483647)])),
  .inr (.inl (0, 6, true, [.inr ((-2147483648), 2147483647)])),
  .inr (.inl (0, 6, true, [.inr ((-2147483648), 2147483647)]))], [.inr (.inl ([64], false))], [.inl (11, [.inl (.inl ([], 0)), .inl (.inr (.inl ([65], false))), .inl (.inl ([], 0)), .inl (.inl ([], 0)), .inl (.inl ([], 0)), .inl (.inl ([], 0)), .inl (.inl ([], 0)), .inl (.inr (.inl ([66], false))), .inl (.inr (.inl ([67], false))), .inl (.inr (.inl ([68], false))), .inl (.inr (.inl ([69], false))), .inl (.inr (.inl ([70], false))), .inl (.inr (.inl ([71], false))), .inl (.inr (.inl ([72], false))), .inl (.inr (.inl ([73], false))), .inl (.inr (.inl ([74], false))), .inl (.inr (.inl ([75], false))), .inl (.inr (.inl ([76], false))), .inl (.inr (.inl ([77], false))), .inl (.inr (.inl ([78], false))), .inl (.inr (.inl ([79], false))), .inl (.inl ([], 0)), .inl (.inl ([], 0)), .inl (.inl ([], 24)), .inl (.inl ([], 168)), .inl (.inr (.inl ([80], false))), .inl (.inr (.inl ([81], false))), .inl (.inr (.inl ([82], false))), .inl (.inr (.inl ([83], false))), .inl (.inr (.inl ([84], false))), .inl (.inr (.inl ([85], false))), .inl (.inr (.inl ([86], false))), .inl (.inr (.inl ([87], false))), .inl (.inr (.inl ([88], false))), .inl (.inr (.inl ([89], false))), .inl (.inr (.inl ([90], false))), .inl (.inr (.inl ([91], false))), .inl (.inl ([], 0)), .inl (.inl ([], 0)), .inl (.inl ([], 0)), .inl (.inl ([], 0)), .inl (.inl ([], 0)), .inl (.inl ([], 0)), .inl (.inl ([], 0)), .inl (.inl ([], 0)), .inl (.inl ([], 0)), .inl (.inl ([], 0)), .inl (.inr (.inr true)), .inl (.inr (.inl ([92], false))), .inl (.inr (.inl ([93], false))), .inl (.inr (.inl ([94], false))), .inl (.inr (.inl ([95], false))), .inl (.inr (.inl ([96], false))), .inl (.inr (.inl ([97], false))), .inl (.inr (.inl ([98], false))), .inl (.inr (.inl ([99], false))), .inl (.inr (.inl ([100], false))), .inl (.inr (.inl ([101], false))), .inl (.inr (.inl ([102], false))), .inl (.inr (.inl ([103], false))), .inl (.inr (.inl ([104], false))), .inl (.inr (.inl ([105], false))), .inl (.inr (.inl ([106], false))), .inl (.inr (.inl ([107], false))), .inl (.inr (.inl ([108], false))), .inl (.inr (.inl ([109], false))), .inl (.inr (.inl ([110], false))), .inl (.inl ([], 0)), .inl (.inl ([], 0)), .inl (.inl ([], 0)), .inl (.inl ([], 0)), .inl (.inl ([], 0)), .inl (.inr (.inl ([111], false))), .inl (.inr (.inl ([112], false))), .inl (.inr (.inl ([113], false))), .inl (.inr (.inl ([114], false))), .inl (.inr (.inl ([115], false))), .inl (.inr (.inl ([116], false))), .inr ((-2147483648), 2147483647), .inl (.inr (.inl ([117], false))), .inl (.inr (.inl ([118], false))), .inl (.inr (.inl ([119], false))), .inl (.inr (.inl ([120], false))), .inl (.inr (.inl ([121], false))), .inl (.inr (.inl ([122], false))), .inl (.inr (.inl ([123], false))), .inl (.inr (.inl ([124], false))), .inl (.inr (.inl ([125], false))), .inl (.inl ([], 0)), .inl (.inl ([], 0)), .inl (.inr (.inl ([126], false))), .inl (.inr (.inl ([127], false))), .inl (.inr (.inl ([128], false))), .inl (.inr (.inl ([129], false))), .inl (.inr (.inl ([130], false))), .inl (.inr (.inl ([131], false))), .inl (.inr (.inl ([132], false))), .inl (.inl ([], 0)), .inl (.inl ([], 0)), .inl (.inl ([], 0)), .inl (.inl ([], (-1)))]),
  .inr (.inl (1, 340, true, [.inr ((-128), 127)])),
  .inr (.inl (0, 9, true, [.inr ((-2147483648), 2147483647)])),
  .inr (.inl (0, 9, true, [.inr ((-2147483648), 2147483647)])),
  .inr (.inl (0, 9, true, [.inr ((-2147483648), 2147483647)])),
  .inr (.inl (0, 36, true, [.inr ((-2147483648), 2147483647)])),
  .inr (.inl (0, 9, true, [.inr ((-2147483648), 2147483647)])),
  .inr (.inl (0, 72, true, [.inr ((-2147483648), 2147483647)])),
  .inr (.inl (0, 72, true, [.inr ((-2147483648), 2147483647)])),
  .inr (.inl (0, 72, true, [.inr ((-2147483648), 2147483647)])),
  .inr (.inl (0, 72, true, [.inr ((-2147483648), 2147483647)])),
  .inr (.inl (2, 9, true, [.inr (0, 1)])),
  .inr (.inl (0, 20, true, [.inr ((-2147483648), 2147483647)])),
  .inr (.inl (0, 20, true, [.inr ((-2147483648), 2147483647)])),
  .inr (.inl (0, 20, true, [.inr ((-2147483648), 2147483647)])),
  .inr (.inl (0, 8, true, [.inr ((-2147483648), 2147483647)])),
  .inr (.inl (0, 84, true, [.inr ((-2147483648), 2147483647)])),
  .inr (.inl (0, 21, true, [.inr ((-2147483648), 2147483647)])),
  .inr (.inl (0, 126, true, [.inr ((-2147483648), 2147483647)])),
  .inr (.inl (0, 126, true, [.inr ((-2147483648), 2147483647)])),
  .inr (.inl (0, 21, true, [.inr ((-2147483648), 2147483647)])),
  .inr (.inl (0, 168, true, [.inr ((-2147483648), 2147483647)])),
  .inr (.inl (0, 168, true, [.inr ((-2147483648), 2147483647)])),
  .inr (.inl (0, 168, true, [.inr ((-2147483648), 2147483647)])),
  .inr (.inl (0, 2100, true, [.inr ((-2147483648), 2147483647)])),
  .inr (.inl (0, 2100, true, [.inr ((-2147483648), 2147483647)])),
  .inr (.inl (0, 2100, true, [.inr ((-2147483648), 2147483647)])),
  .inr (.inl (0, 64, true, [.inr ((-2147483648), 2147483647)])),
  .inr (.inl (0, 200, true, [.inr ((-2147483648), 2147483647)])),
  .inr (.inl (0, 200, true, [.inr ((-2147483648), 2147483647)])),
  .inr (.inl (0, 200, true, [.inr ((-2147483648), 2147483647)])),
  .inr (.inl (0, 200, true, [.inr ((-2147483648), 2147483647)])),
  .inr (.inl (0, 60, true, [.inr ((-2147483648), 2147483647)])),
  .inr (.inl (0, 60, true, [.inr ((-2147483648), 2147483647)])),
  .inr (.inl (0, 60, true, [.inr ((-2147483648), 2147483647)])),
  .inr (.inl (0, 60, true, [.inr ((-2147483648), 2147483647)])),
  .inr (.inl (0, 400, true, [.inr ((-2147483648), 2147483647)])),
  .inr (.inl (0, 400, true, [.inr ((-2147483648), 2147483647)])),
  .inr (.inl (0, 400, true, [.inr ((-2147483648), 2147483647)])),
  .inr (.inl (0, 400, true, [.inr ((-2147483648), 2147483647)])),
  .inr (.inl (0, 66, true, [.inr ((-2147483648), 2147483647)])),
  .inr (.inl (0, 66, true, [.inr ((-2147483648), 2147483647)])),
  .inr (.inl (0, 66, true, [.inr ((-2147483648), 2147483647)])),
  .inr (.inl (0, 66, true, [.inr ((-2147483648), 2147483647)])),
  .inr (.inl (0, 66, true, [.inr ((-2147483648), 2147483647)])),
  .inr (.inl (0, 66, true, [.inr ((-2147483648), 2147483647)])),
  .inr (.inl (2, 400, true, [.inr (0, 1)])),
  .inr (.inl (0, 528, true, [.inr ((-2147483648), 2147483647)])),
  .inr (.inl (0, 528, true, [.inr ((-2147483648), 2147483647)])),
  .inr (.inl (0, 528, true, [.inr ((-2147483648), 2147483647)])),
  .inr (.inl (0, 66, true, [.inr ((-2147483648), 2147483647)])),
  .inr (.inl (0, 66, true, [.inr ((-2147483648), 2147483647)])),
  .inr (.inl (0, 66, true, [.inr ((-2147483648), 2147483647)])),
  .inr (.inl (2, 64, true, [.inr (0, 1)])),
  .inr (.inl (2, 625, false, zx_row1)),
  .inr (.inl (2, 625, false, zx_row0)),
  .inr (.inl (2, 721, true, [.inr (0, 1)])),
  .inr (.inl (2, 66, true, [.inr (0, 1)])),
  .inr (.inl (0, 5200, true, [.inr ((-2147483648), 2147483647)])),
  .inr (.inl (0, 5200, true, [.inr ((-2147483648), 2147483647)])),
  .inr (.inl (0, 5200, true, [.inr ((-2147483648), 2147483647)])),
  .inr (.inl (2, 9504, true, [.inr (0, 1)])),
  .inr (.inl (0, 5200, true, [.inr ((-2147483648), 2147483647)])),
  .inr (.inl (0, 5200, true, [.inr ((-2147483648), 2147483647)])),
  .inr (.inl (0, 5200, true, [.inr ((-2147483648), 2147483647)])),
  .inr (.inl (0, 6, true, [.inr ((-2147483648), 2147483647)])),
  .inr (.inl (0, 6, true, [.inr ((-2147483648), 2147483647)])),
  .inr (.inl (0, 6, true, [.inr ((-2147483648), 2147483647)])),
  .inr (.inl (0, 6, true, [.inr ((-2147483648), 2147483647)]))], none)
noncomputable def zx_kp (en : zx_En) : Bool := zx_eqO (zx_fk en.1 [] en.2.1 en.2.2.1) (some [([], en.2.2.2.1, en.2.2.2.2)]) && Nat.beq en.2.2.2.1.length en.2.1.length
end
section
/-! zx: kept runs -/
set_option maxRecDepth 1000000 in
theorem zx_kp0 : zx_kp zx_en0 = true := by decide +kernel
set_option maxRecDepth 1000000 in
theorem zx_kp1 : zx_kp zx_en1 = true := by decide +kernel
set_option maxRecDepth 1000000 in
theorem zx_kp2 : zx_kp zx_en2 = true := by decide +kernel
set_option maxRecDepth 1000000 in
theorem zx_kp3 : zx_kp zx_en3 = true := by decide +kernel
set_option maxRecDepth 1000000 in
theorem zx_kp4 : zx_kp zx_en4 = true := by decide +kernel
set_option maxRecDepth 1000000 in
theorem zx_kp5 : zx_kp zx_en5 = true := by decide +kernel
set_option maxRecDepth 1000000 in
theorem zx_kp6 : zx_kp zx_en6 = true := by decide +kernel
set_option maxRecDepth 1000000 in
theorem zx_kp7 : zx_kp zx_en7 = true := by decide +kernel
set_option maxRecDepth 1000000 in
theorem zx_kp8 : zx_kp zx_en8 = true := by decide +kernel
set_option maxRecDepth 1000000 in
theorem zx_kp9 : zx_kp zx_en9 = true := by decide +kernel
set_option maxRecDepth 1000000 in
theorem zx_kp10 : zx_kp zx_en10 = true := by decide +kernel
set_option maxRecDepth 1000000 in
theorem zx_kp11 : zx_kp zx_en11 = true := by decide +kernel
set_option maxRecDepth 1000000 in
theorem zx_kp12 : zx_kp zx_en12 = true := by decide +kernel
set_option maxRecDepth 1000000 in
theorem zx_kp13 : zx_kp zx_en13 = true := by decide +kernel
set_option maxRecDepth 1000000 in
theorem zx_kp14 : zx_kp zx_en14 = true := by decide +kernel
set_option maxRecDepth 1000000 in
theorem zx_kp15 : zx_kp zx_en15 = true := by decide +kernel
end
section
/-! zx: kept runs -/
set_option maxRecDepth 1000000 in
theorem zx_kp17 : zx_kp zx_en17 = true := by decide +kernel
set_option maxRecDepth 1000000 in
theorem zx_kp19 : zx_kp zx_en19 = true := by decide +kernel
set_option maxRecDepth 1000000 in
theorem zx_kp21 : zx_kp zx_en21 = true := by decide +kernel
set_option maxRecDepth 1000000 in
theorem zx_kp22 : zx_kp zx_en22 = true := by decide +kernel
set_option maxRecDepth 1000000 in
theorem zx_kp23 : zx_kp zx_en23 = true := by decide +kernel
set_option maxRecDepth 1000000 in
theorem zx_kp24 : zx_kp zx_en24 = true := by decide +kernel
set_option maxRecDepth 1000000 in
theorem zx_kp25 : zx_kp zx_en25 = true := by decide +kernel
end
section
/-! zx: kept runs -/
set_option maxRecDepth 1000000 in
theorem zx_kp26 : zx_kp zx_en26 = true := by decide +kernel
set_option maxRecDepth 1000000 in
theorem zx_kp27 : zx_kp zx_en27 = true := by decide +kernel
set_option maxRecDepth 1000000 in
theorem zx_kp28 : zx_kp zx_en28 = true := by decide +kernel
set_option maxRecDepth 1000000 in
theorem zx_kp29 : zx_kp zx_en29 = true := by decide +kernel
set_option maxRecDepth 1000000 in
theorem zx_kp30 : zx_kp zx_en30 = true := by decide +kernel
set_option maxRecDepth 1000000 in
theorem zx_kp31 : zx_kp zx_en31 = true := by decide +kernel
set_option maxRecDepth 1000000 in
theorem zx_kp32 : zx_kp zx_en32 = true := by decide +kernel
end
section
/-! zx: kept runs -/
set_option maxRecDepth 1000000 in
theorem zx_kp16 : zx_kp zx_en16 = true := by decide +kernel
set_option maxRecDepth 1000000 in
theorem zx_kp18 : zx_kp zx_en18 = true := by decide +kernel
end
section
/-! zx: kept runs -/
set_option maxRecDepth 1000000 in
theorem zx_kp20 : zx_kp zx_en20 = true := by decide +kernel
set_option maxRecDepth 1000000 in
theorem zx_kp33 : zx_kp zx_en33 = true := by decide +kernel
set_option maxRecDepth 1000000 in
theorem zx_kp34 : zx_kp zx_en34 = true := by decide +kernel
set_option maxRecDepth 1000000 in
theorem zx_kp35 : zx_kp zx_en35 = true := by decide +kernel
end
section
/-! zx: kept runs -/
set_option maxRecDepth 1000000 in
theorem zx_kp36 : zx_kp zx_en36 = true := by decide +kernel
end
section
/-! zx: the kept runs, used -/
theorem zx_fk_ok {l : Launch} : zx_FOK l vwCl zx_Ts zx_nw zx_sts zx_Yt zx_aos zx_PRt zx_rmt 4 zx_fk := by
  unfold zx_fk
  rw [zy_run_eq]
  exact zx_run_ok zx_PKt zx_CKt zx_arrs zx_Ts_good zx_nw_kind (by intro d j hP y cc maxL ret rm _ _ G h as os hz; cases hz) 4
theorem zx_kp_ok {l : Launch} {en : zx_En} (h : zx_kp en = true) : ∃ (d : Nat) (f : zx_Fn), d ≤ 4 ∧ zx_FJ l vwCl zx_Ts zx_nw zx_sts zx_Yt zx_aos zx_PRt zx_rmt d f en.1 ∧ f en.1 [] en.2.1 en.2.2.1 = some [([], en.2.2.2.1, en.2.2.2.2)] ∧ en.2.2.2.1.length = en.2.1.length := by
  unfold zx_kp at h
  rw [Bool.and_eq_true] at h
  exact ⟨4, zx_fk, Nat.le_refl _, zx_fk_ok en.1, zx_eqO_ok h.1, Nat.eq_of_beq_eq_true h.2⟩
def zx_E : List zx_En := [zx_en0, zx_en1, zx_en2, zx_en3, zx_en4, zx_en5, zx_en6, zx_en7, zx_en8, zx_en9, zx_en10, zx_en11, zx_en12, zx_en13, zx_en14, zx_en15, zx_en16, zx_en17, zx_en18, zx_en19, zx_en20, zx_en21, zx_en22, zx_en23, zx_en24, zx_en25, zx_en26, zx_en27, zx_en28, zx_en29, zx_en30, zx_en31, zx_en32, zx_en33, zx_en34, zx_en35, zx_en36]
theorem zx_E_ok {l : Launch} : zx_EOK l vwCl zx_Ts zx_nw zx_sts zx_Yt zx_aos zx_PRt zx_rmt 4 zx_E := by
  intro en hen
  simp only [zx_E, List.mem_cons, List.not_mem_nil, or_false] at hen
  rcases hen with rfl | rfl | rfl | rfl | rfl | rfl | rfl | rfl | rfl | rfl | rfl | rfl | rfl | rfl | rfl | rfl | rfl | rfl | rfl | rfl | rfl | rfl | rfl | rfl | rfl | rfl | rfl | rfl | rfl | rfl | rfl | rfl | rfl | rfl | rfl | rfl | rfl
  · exact zx_kp_ok zx_kp0
  · exact zx_kp_ok zx_kp1
  · exact zx_kp_ok zx_kp2
  · exact zx_kp_ok zx_kp3
  · exact zx_kp_ok zx_kp4
  · exact zx_kp_ok zx_kp5
  · exact zx_kp_ok zx_kp6
  · exact zx_kp_ok zx_kp7
  · exact zx_kp_ok zx_kp8
  · exact zx_kp_ok zx_kp9
  · exact zx_kp_ok zx_kp10
  · exact zx_kp_ok zx_kp11
  · exact zx_kp_ok zx_kp12
  · exact zx_kp_ok zx_kp13
  · exact zx_kp_ok zx_kp14
  · exact zx_kp_ok zx_kp15
  · exact zx_kp_ok zx_kp16
  · exact zx_kp_ok zx_kp17
  · exact zx_kp_ok zx_kp18
  · exact zx_kp_ok zx_kp19
  · exact zx_kp_ok zx_kp20
  · exact zx_kp_ok zx_kp21
  · exact zx_kp_ok zx_kp22
  · exact zx_kp_ok zx_kp23
  · exact zx_kp_ok zx_kp24
  · exact zx_kp_ok zx_kp25
  · exact zx_kp_ok zx_kp26
  · exact zx_kp_ok zx_kp27
  · exact zx_kp_ok zx_kp28
  · exact zx_kp_ok zx_kp29
  · exact zx_kp_ok zx_kp30
  · exact zx_kp_ok zx_kp31
  · exact zx_kp_ok zx_kp32
  · exact zx_kp_ok zx_kp33
  · exact zx_kp_ok zx_kp34
  · exact zx_kp_ok zx_kp35
  · exact zx_kp_ok zx_kp36
noncomputable def zx_fm : zx_Fn := zy_rm zx_Yt zx_dt zx_rmt zx_Pt (zx_mm zx_E) 20000 8
theorem zx_fm_ok {l : Launch} : zx_FOK l vwCl zx_Ts zx_nw zx_sts zx_Yt zx_aos zx_PRt zx_rmt 12 zx_fm := by
  unfold zx_fm
  rw [zy_rm_eq]
  exact zx_rm_ok (d0 := 4) zx_PKt zx_CKt zx_arrs zx_Ts_good zx_nw_kind (fun d j hd => zx_mm_ok zx_E_ok hd j) 8
set_option maxRecDepth 1000000 in
theorem zx_o878 : zx_lB zx_fm 400 (zx_qA 878 14) = true := by decide +kernel
set_option maxRecDepth 1000000 in
theorem zx_o1179 : zx_lB zx_fm 400 (zx_qA 1179 20) = true := by decide +kernel
end
section
/-! ===== BEGIN exceptions that leave a method, and their catching by the caller (launches without stack traces) ===== -/
section VXA
/-! The laws vx_back, vx_callV, vx_callS, vx_callSW, vx_throw0, vx_throwS follow proofs of the library, with one case more: JvmDerived/Free/Laws.lean (Back.of_free), Shelf42/LK1.lean (callV, callS), Shelf/KitTraced.lean (throwNew0V, throwNewS). -/
/-- where a method has thrown q: the class by its name, the cell, what was written, the world -/
def vx_T (XC : String → State → State → Prop) (st : State) (q : Addr) (t : State) (mc ms : Nat) (free : Addr → Prop) : Prop :=
  ∃ (E : String) (ce : Cell) (L : List Loc), XC E st t ∧ t.heap[q]? = some ce ∧ ce.vm = .none ∧ st.vm.findClass E = some ce.cls ∧ st.WarmedH t.vm ∧ st.sameButNew ({ t with vm := st.vm } : State) L mc ms ∧ ∀ z ∈ L, free z.base
def vx_Q (Qc : Array Value → State → Outcome → State → Prop) (XC : String → State → State → Prop) (mc ms : Nat) (free : Addr → Prop) : Array Value → State → Outcome → State → Prop := fun a st o t =>
  (Qc a st o t ∧ ∃ L, FrameEnd st o t L mc ms ∧ ∀ q ∈ L, free q.base) ∨ ∃ q, o = .threw q ∧ vx_T XC st q t mc ms free
/-- a callee that returns or throws -/
def vx_Met (l : Launch) (y : MethodName) (ws : List Cond) (rm : Room) (Pc : Array Value → State → Prop) (Qc : Array Value → State → Outcome → State → Prop) (XC : String → State → State → Prop) (mc ms : Nat) (free : Addr → Prop) : Prop :=
  MetFree l y (headSpec ws rm) Pc (fun _ _ _ _ _ => True) (vx_Q Qc XC mc ms free)
def vx_Post (XC : String → State → State → Prop) (mc ms : Nat) (free : Addr → Prop) : Pt → Array Value → Addr → Pt → Prop := fun A a q B =>
  ∃ (g : JFrame) (mk : MethodId) (t : State) (L : List Loc) (E : String) (ce : Cell), B.U.heap = t.heap ∧ B.U.vm = t.vm ∧ XC E (A.U.calling g mk a) t ∧ t.heap[q]? = some ce ∧ ce.vm = .none ∧ A.U.vm.findClass E = some ce.cls ∧ B.locs = A.locs ++ L ∧ (∀ z ∈ L, free z.base) ∧ B.cells = A.cells + mc ∧ B.slots = A.slots + ms
def vx_Back (l : Launch) (R : Room) (p : Program) (e : Env) (below : List Frame) (s : State) (sargs : Array Value) (y : MethodName) (len W9 : Nat)
    (Pre : Pt → Array Value → Prop) (Post : Pt → Array Value → Option Value → Pt → Prop) (PostX : Pt → Array Value → Addr → Pt → Prop) : Prop :=
  ∀ (m : MethodId) (meth : Method) (c : Code) (A : Pt) (g : JFrame) (ig : Instr) (mk : MethodId) (a : Array Value),
    Stand p l e R s m sargs below meth c A.U A.locs A.cells A.slots → g.method = m → g.locals.size = c.maxLocals → decode c.code g.pc = .ok (ig, len) →
    2 * g.monitorRoom + (g.stack.map fun v => v.category).sum ≤ W9 → A.U.methodNamed? y = some mk → Pre A a →
    (∃ (v : Option Value) (B : Pt), Stand p l e R s m sargs below meth c B.U B.locs B.cells B.slots ∧ Post A a v B ∧
      Steps p.tables e below (doInvoke e (A.U.setTop g) [] mk a).1 (B.U.setTop { g with pc := g.pc + len, stack := v.toList ++ g.stack })) ∨
    (∃ (q : Addr) (B : Pt), Stand p l e R s m sargs below meth c B.U B.locs B.cells B.slots ∧ PostX A a q B ∧
      Steps p.tables e below (doInvoke e (A.U.setTop g) [] mk a).1 ((B.U.setTop g).pushFrame (.throwing q)))
section Payer
variable {l : Launch} {R : Room} {p : Program} {e : Env} {below : List Frame} {s : State} {sargs : Array Value} {y : MethodName} {len W9 : Nat}
theorem vx_back {ws : List Cond} {rm : Room} {Pc : Array Value → State → Prop} {Qc : Array Value → State → Outcome → State → Prop} {XC : String → State → State → Prop} {mc ms : Nat} {free : Addr → Prop} {bytes : ByteArray} {maxL : Nat} {ret : Option FieldType}
    (hM : vx_Met l y ws rm Pc Qc XC mc ms free) (hblind : FrameBlind Pc) (hrc : rm.cells = mc) (hrs : rm.slots = ms)
    (hframes : rm.frames + 1 ≤ R.frames) (hlocals : W9 + (maxL + 11) + rm.locals ≤ R.locals)
    (hws : ∀ w ∈ ws, ∀ a' U, s.WarmedH U.vm → w.before a' U = true) (hcode : Cond.code y bytes maxL ret ∈ ws) (hinit : ∀ a' U, s.WarmedH U.vm → (Cond.initialized y.cls).before a' U = true) :
    vx_Back l R p e below s sargs y len W9 (PreOf R mc ms Pc) (PostOf Qc mc ms free) (vx_Post XC mc ms free) := by
  intro m meth c A g ig mk a X hg hsize hdg hW hn hp
  have h1 : (headSpec ws rm).pre.before a A.U = true := atoms_intro fun w hw => hws w hw _ _ X.warmed
  have h2 : (Cond.code y bytes maxL ret).before a A.U = true := hws _ hcode _ _ X.warmed
  have h3 : (Cond.initialized y.cls).before a A.U = true := hinit _ _ X.warmed
  have h4 : A.cells + (headSpec ws rm).room.cells ≤ R.cells := by rw [show (headSpec ws rm).room.cells = mc from hrc]; exact hp.1
  have h5 : A.slots + (headSpec ws rm).room.slots ≤ R.slots := by rw [show (headSpec ws rm).room.slots = ms from hrs]; exact hp.2.1
  have hPc : Pc a (A.U.calling g mk a) := hblind _ _ _ _ hp.2.2
  obtain ⟨U, Ls, c0, s0⟩ := A
  dsimp only [Pt.U, Pt.locs, Pt.cells, Pt.slots] at h1 h2 h3 h4 h5 X hn hPc ⊢
  obtain ⟨methY, cY, hmY, hcY, -, hlY, -, -, -, -⟩ := Cond.code_spec hn h2
  obtain ⟨kY, hkY, -⟩ := className_of_methodNamed hn
  have hinitY : kY.init = .initialized := Cond.initialized_spec (findClass_of_methodNamed hn) hkY h3
  have h : At U g.method c below := by rw [hg]; exact X.here
  have hlocals9 : W9 + (maxL + 11) + (headSpec ws rm).room.locals ≤ R.locals := hlocals
  have happ : (headSpec ws rm).appliesLoose y e.platform (U.calling g mk a) = true :=
    Spec.appliesLoose_calling (g := g) h hdg hn hkY hinitY
      (X.room_calling (g := g) (R' := (headSpec ws rm).room) hsize hmY hcY hframes (by rw [hlY]; omega) h4 h5) h1
  obtain ⟨mid, hmid⟩ := h.above
  have hfr : (U.setTop g).frames = (.java g :: mid) ++ below := by rw [State.frames_setTop' g h.top, hmid]; rfl
  obtain ⟨o, s₂, hsteps, -, hend, hq⟩ := Steps.callFree hM p X.admits X.cas X.clock (acts := []) hfr happ hPc trivial
  have hq' : vx_Q Qc XC mc ms free a (U.calling g mk a) o s₂ := hq
  rw [State.frames_setTop' g h.top] at hend
  obtain ⟨g₀, hg0⟩ := Option.isSome_iff_exists.mp h.top
  obtain ⟨r, hr⟩ := State.topJava?_eq_some.mp hg0
  have hr' : (({ U with heap := s₂.heap, slotsUsed := s₂.slotsUsed } : State).setVm s₂.vm).frames = .java g₀ :: r := hr
  rcases hq' with ⟨hqc, L, hfe, hL⟩ | ⟨q, rfl, E, ce, L, hx, hce, hcv, hcl, hW₂, hsm, hL⟩
  · obtain ⟨⟨v, rfl⟩, hW₂, e2, q2, q3, q4, q5, q6⟩ := id hfe
    have e3 : s₂ = ({ (U.calling g mk a).setFrames s₂.frames with heap := s₂.heap, slotsUsed := s₂.slotsUsed } : State).setVm s₂.vm := by
      have : s₂ = ({ s₂ with vm := (U.calling g mk a).vm } : State).setVm s₂.vm := rfl
      rw [e2] at this
      exact this
    obtain ⟨c₂, i₂, len₂, hc₂, hd₂, hf₂⟩ := hend
    have hW' : U.WarmedH s₂.vm := hW₂
    have hcc : c₂ = c := by
      have h1 : s₂.code? g.method = U.code? g.method := by
        rw [State.code?_eq, State.code?_eq, hW'.alike.method?]
      exact Option.some.inj (hc₂.symm.trans (h1.trans h.code))
    subst hcc
    have hlen : len₂ = len := by rw [hdg] at hd₂; cases hd₂; rfl
    subst hlen
    have hs₂ : s₂ = (({ U with heap := s₂.heap, slotsUsed := s₂.slotsUsed } : State).setVm s₂.vm).setTop { g with pc := g.pc + len₂, stack := v.toList ++ g.stack } := by
      refine e3.trans ?_
      rw [hf₂, State.calling_eq h.top, State.setFrames_setFrames, State.setTop_of_frames _ hr', hr]
      rfl
    have hsame : U.sameButNew ({ U with heap := s₂.heap, slotsUsed := s₂.slotsUsed } : State) L mc ms := by
      refine ⟨?_, q2, q3, q4, q5, q6⟩
      obtain ⟨t, ht, -⟩ := State.frames_cons hr
      show ({ U with heap := s₂.heap, slotsUsed := s₂.slotsUsed } : State) = { U.setFrames U.frames with heap := s₂.heap, slotsUsed := s₂.slotsUsed }
      rw [State.setFrames_self ht]
    subst hg
    refine Or.inl ⟨v, ⟨(({ U with heap := s₂.heap, slotsUsed := s₂.slotsUsed } : State).setVm s₂.vm), Ls ++ L, c0 + mc, s0 + ms⟩,
      ⟨X.admits, X.cas, X.clock, X.frames, X.room, X.hears, X.method, X.code, (X.here.setHeapUsed s₂.heap s₂.slotsUsed).setVm hW'.alike, X.tail, State.WarmedH.trans X.warmed hW', X.limits, X.bytes, X.same.trans (hsame.setVm s.vm)⟩,
      ⟨g, mk, s₂, L, rfl, rfl, hqc, rfl, hL, rfl, rfl⟩, ?_⟩
    show Steps p.tables e below _ ((({ U with heap := s₂.heap, slotsUsed := s₂.slotsUsed } : State).setVm s₂.vm).setTop { g with pc := g.pc + len₂, stack := v.toList ++ g.stack })
    rw [← hs₂]
    exact hsteps
  · obtain ⟨e2, q2, q3, q4, q5, q6⟩ := id hsm
    have e3 : s₂ = ({ (U.calling g mk a).setFrames s₂.frames with heap := s₂.heap, slotsUsed := s₂.slotsUsed } : State).setVm s₂.vm := by
      have : s₂ = ({ s₂ with vm := (U.calling g mk a).vm } : State).setVm s₂.vm := rfl
      rw [e2] at this
      exact this
    have hf₂ : s₂.frames = .throwing q :: .java g :: U.frames.tail := hend
    have hW' : U.WarmedH s₂.vm := hW₂
    have hs₂ : s₂ = ((({ U with heap := s₂.heap, slotsUsed := s₂.slotsUsed } : State).setVm s₂.vm).setTop g).pushFrame (.throwing q) := by
      refine e3.trans ?_
      rw [hf₂, State.calling_eq h.top, State.setFrames_setFrames, State.pushFrame, State.frames_setTop _ hr', State.setTop_of_frames _ hr', State.setFrames_setFrames, hr]
      rfl
    have hsame : U.sameButNew ({ U with heap := s₂.heap, slotsUsed := s₂.slotsUsed } : State) L mc ms := by
      refine ⟨?_, q2, q3, q4, q5, q6⟩
      obtain ⟨t, ht, -⟩ := State.frames_cons hr
      show ({ U with heap := s₂.heap, slotsUsed := s₂.slotsUsed } : State) = { U.setFrames U.frames with heap := s₂.heap, slotsUsed := s₂.slotsUsed }
      rw [State.setFrames_self ht]
    subst hg
    refine Or.inr ⟨q, ⟨(({ U with heap := s₂.heap, slotsUsed := s₂.slotsUsed } : State).setVm s₂.vm), Ls ++ L, c0 + mc, s0 + ms⟩,
      ⟨X.admits, X.cas, X.clock, X.frames, X.room, X.hears, X.method, X.code, (X.here.setHeapUsed s₂.heap s₂.slotsUsed).setVm hW'.alike, X.tail, State.WarmedH.trans X.warmed hW', X.limits, X.bytes, X.same.trans (hsame.setVm s.vm)⟩,
      ⟨g, mk, s₂, L, E, ce, rfl, rfl, hx, hce, hcv, hcl, rfl, hL, rfl, rfl⟩, ?_⟩
    show Steps p.tables e below _ (((({ U with heap := s₂.heap, slotsUsed := s₂.slotsUsed } : State).setVm s₂.vm).setTop g).pushFrame (.throwing q))
    rw [← hs₂]
    exact hsteps
end Payer
section Calls
variable {p : Program} {l : Launch} {e : Env} {R : Room} {s : State} {m : MethodId} {args : Array Value} {below : List Frame} {meth : Method} {c : Code} {T : State} {locs : List Loc} {cells slots : Nat}
theorem vx_callV (X : Stand p l e R s m args below meth c T locs cells slots) (hexec : p.tables.exec = Jvm.exec) {own C : String} {index : Nat} {y : MethodName} {bytes : ByteArray} {maxL : Nat} {ret : Option FieldType}
    (hown : s.vm.findClass own = some m.cls) (hlink : (Cond.methodLink own index y).before args s = true) (hinst : (Cond.instanceMethod y).before args s = true) (hsel : (Cond.selects C y y).before args s = true)
    (hcode : (Cond.code y bytes maxL ret).before args s = true) (hy : y.cls ≠ "java/lang/invoke/MethodHandle" ∧ y.cls ≠ "java/lang/invoke/VarHandle")
    {W9 : Nat} {Pre : Pt → Array Value → Prop} {Post : Pt → Array Value → Option Value → Pt → Prop} {PostX : Pt → Array Value → Addr → Pt → Prop} (hK : vx_Back l R p e below s args y 3 W9 Pre Post PostX)
    {b : Addr} {cellB : Cell} (hcell : T.heap[b]? = some cellB) (hobj : cellB.vm.isStatics = false) (hcls : s.vm.findClass C = some cellB.cls)
    {g : JFrame} (hg : g.method = m) (hsize : g.locals.size = c.maxLocals) {argsL rest : List Value} (hlen : ∀ sig, parseMethodDescriptor y.desc = some sig → argsL.length = sig.parameters.length)
    (hstack : g.stack = argsL.reverse ++ .ref b :: rest) (hW : 2 * g.monitorRoom + (rest.map fun v => v.category).sum ≤ W9) (hdg : decode c.code g.pc = .ok (.invokevirtual index, 3))
    (hpre : ∀ vm₁, s.WarmedH vm₁ → Pre ⟨T.setVm vm₁, locs, cells, slots⟩ (Value.ref b :: argsL).toArray) :
    (∃ (v : Option Value) (vm₁ : Vm) (B : Pt), s.WarmedH vm₁ ∧ Stand p l e R s m args below meth c B.U B.locs B.cells B.slots ∧ Post ⟨T.setVm vm₁, locs, cells, slots⟩ (Value.ref b :: argsL).toArray v B ∧
      ∀ target, Steps p.tables e below (B.U.setTop { g with pc := g.pc + 3, stack := v.toList ++ rest }) target → Steps p.tables e below (T.setTop g) target) ∨
    (∃ (q : Addr) (vm₁ : Vm) (B : Pt), s.WarmedH vm₁ ∧ Stand p l e R s m args below meth c B.U B.locs B.cells B.slots ∧ PostX ⟨T.setVm vm₁, locs, cells, slots⟩ (Value.ref b :: argsL).toArray q B ∧
      Steps p.tables e below (T.setTop g) ((B.U.setTop { g with stack := rest }).pushFrame (.throwing q))) := by
  obtain ⟨mk, methM, hnamed, hmethM, hstM, habM⟩ := Cond.instanceMethod_spec hinst
  obtain ⟨methM', cM, hmethM', -, -, -, -, -, -, hsigM⟩ := Cond.code_spec hnamed hcode
  cases hmethM.symm.trans hmethM'
  obtain ⟨c2, r2, m2, q1, q2, q3, q4, kP, hkP, hkPi⟩ := Cond.selects_spec hsel
  cases hcls.symm.trans q1
  cases (State.methodFound?_of_named hnamed hy).symm.trans q2
  cases hnamed.symm.trans q3
  have hselP : selectMethod e.platform s.vm cellB.cls mk = .method mk := by rw [Launch.admits_selectMethod X.admits]; exact q4
  obtain ⟨vm₁, X₁, hstep₁⟩ := X.invokevirtual hexec hown hlink hnamed hmethM hstM hkP hkPi hy (a := b) (cell := cellB) hcell
    (fun z h => by rw [h] at hobj; cases hobj) hselP hmethM habM hkP hkPi (g := g) hg (argsL := argsL) (rest := rest) (hlen _ hsigM) hstack hdg
  rcases hK m meth c ⟨T.setVm vm₁, locs, cells, slots⟩ { g with stack := rest } (.invokevirtual index) mk (Value.ref b :: argsL).toArray X₁ hg hsize hdg hW (X₁.named hnamed) (hpre vm₁ X₁.warmed) with ⟨v, B, X', hpost, hsteps⟩ | ⟨q, B, X', hpost, hsteps⟩
  · exact Or.inl ⟨v, vm₁, B, X₁.warmed, X', hpost, fun target h => hstep₁ _ fun acts => by rw [doInvoke_state]; exact hsteps.trans h⟩
  · exact Or.inr ⟨q, vm₁, B, X₁.warmed, X', hpost, hstep₁ _ fun acts => by rw [doInvoke_state]; exact hsteps⟩
theorem vx_callS (X : Stand p l e R s m args below meth c T locs cells slots) (hexec : p.tables.exec = Jvm.exec) {own : String} {index : Nat} {y : MethodName} {bytes : ByteArray} {maxL : Nat} {ret : Option FieldType}
    (hown : s.vm.findClass own = some m.cls) (hlink : (Cond.methodLink own index y).before args s = true) (hstat : (Cond.static y).before args s = true) (hinit : (Cond.initialized y.cls).before args s = true)
    (hcode : (Cond.code y bytes maxL ret).before args s = true) (hy : y.cls ≠ "java/lang/invoke/MethodHandle" ∧ y.cls ≠ "java/lang/invoke/VarHandle")
    {W9 : Nat} {Pre : Pt → Array Value → Prop} {Post : Pt → Array Value → Option Value → Pt → Prop} {PostX : Pt → Array Value → Addr → Pt → Prop} (hK : vx_Back l R p e below s args y 3 W9 Pre Post PostX)
    {g : JFrame} (hg : g.method = m) (hsize : g.locals.size = c.maxLocals) {argsL rest : List Value} (hlen : ∀ sig, parseMethodDescriptor y.desc = some sig → argsL.length = sig.parameters.length)
    (hstack : g.stack = argsL.reverse ++ rest) (hW : 2 * g.monitorRoom + (rest.map fun v => v.category).sum ≤ W9) (hdg : decode c.code g.pc = .ok (.invokestatic index, 3))
    (hpre : ∀ vm₁, s.WarmedH vm₁ → Pre ⟨T.setVm vm₁, locs, cells, slots⟩ argsL.toArray) :
    (∃ (v : Option Value) (vm₁ : Vm) (B : Pt), s.WarmedH vm₁ ∧ Stand p l e R s m args below meth c B.U B.locs B.cells B.slots ∧ Post ⟨T.setVm vm₁, locs, cells, slots⟩ argsL.toArray v B ∧
      ∀ target, Steps p.tables e below (B.U.setTop { g with pc := g.pc + 3, stack := v.toList ++ rest }) target → Steps p.tables e below (T.setTop g) target) ∨
    (∃ (q : Addr) (vm₁ : Vm) (B : Pt), s.WarmedH vm₁ ∧ Stand p l e R s m args below meth c B.U B.locs B.cells B.slots ∧ PostX ⟨T.setVm vm₁, locs, cells, slots⟩ argsL.toArray q B ∧
      Steps p.tables e below (T.setTop g) ((B.U.setTop { g with stack := rest }).pushFrame (.throwing q))) := by
  obtain ⟨mk, hnamed⟩ := Cond.code_named hcode
  obtain ⟨methM, cM, hmethM, -, -, -, -, -, -, hsigM⟩ := Cond.code_spec hnamed hcode
  have hstatic : methM.isStatic = true := Cond.static_spec hnamed hmethM hstat
  obtain ⟨kP, hkP, -⟩ := className_of_methodNamed hnamed
  have hinitP : kP.init = .initialized := Cond.initialized_spec (findClass_of_methodNamed hnamed) hkP hinit
  obtain ⟨vm₁, X₁, hstep₁⟩ := X.invokestatic hexec hown hlink hnamed hmethM hstatic hkP hinitP hy (g := g) hg (argsL := argsL) (rest := rest) (hlen _ hsigM) hstack hdg
  rcases hK m meth c ⟨T.setVm vm₁, locs, cells, slots⟩ { g with stack := rest } (.invokestatic index) mk argsL.toArray X₁ hg hsize hdg hW (X₁.named hnamed) (hpre vm₁ X₁.warmed) with ⟨v, B, X', hpost, hsteps⟩ | ⟨q, B, X', hpost, hsteps⟩
  · exact Or.inl ⟨v, vm₁, B, X₁.warmed, X', hpost, fun target h => hstep₁ _ fun acts => by rw [doInvoke_state]; exact hsteps.trans h⟩
  · exact Or.inr ⟨q, vm₁, B, X₁.warmed, X', hpost, hstep₁ _ fun acts => by rw [doInvoke_state]; exact hsteps⟩
end Calls
theorem vx_cls {s : State} {T : State} {vm₁ : Vm} {E : String} {k : ClassId} (hW : s.WarmedH vm₁) (h : (T.setVm vm₁).vm.findClass E = some k) : s.vm.findClass E = some k := by
  have h1 : vm₁.findClass E = some k := h
  rw [hW.alike.findClass] at h1
  exact h1
/-- the method's frame g, with q thrown over it -/
def vx_W (p : Program) (l : Launch) (e : Env) (R : Room) (s : State) (m : MethodId) (args : Array Value) (below : List Frame) (meth : Method) (c : Code) (H : Heap) (locs : List Loc) (cells slots : Nat) (Q : State → Prop) (g : JFrame) (q : Addr) : Prop :=
  ∀ T : State, T.heap = H → Stand p l e R s m args below meth c T locs cells slots → ∃ t, Steps p.tables e below ((T.setTop g).pushFrame (.throwing q)) t ∧ Q t
def vx_Run (p : Program) (l : Launch) (e : Env) (R : Room) (s : State) (m : MethodId) (args : Array Value) (below : List Frame) (meth : Method) (c : Code) (H : Heap) (locs : List Loc) (cells slots mc ms : Nat) (g : JFrame) (rest : List Value) (Qa : State → Outcome → State → Prop) (XC : String → State → State → Prop) (free : Addr → Prop) : Prop :=
  ∀ T : State, T.heap = H → Stand p l e R s m args below meth c T locs cells slots →
    (∃ (v : Option Value) (st₀ t T' : State) (L : List Loc), st₀.heap = H ∧ Stand p l e R s m args below meth c T' (locs ++ L) (cells + mc) (slots + ms) ∧ (∀ q ∈ L, free q.base) ∧ T'.heap = t.heap ∧ T'.vm = t.vm ∧ Qa st₀ (.returned v) t ∧
      Goes p e below T g T' { g with pc := g.pc + 3, stack := v.toList ++ rest }) ∨
    (∃ (q : Addr) (st₀ t T' : State) (L : List Loc) (E : String) (ce : Cell), st₀.heap = H ∧ Stand p l e R s m args below meth c T' (locs ++ L) (cells + mc) (slots + ms) ∧ (∀ z ∈ L, free z.base) ∧ T'.heap = t.heap ∧ T'.vm = t.vm ∧ XC E st₀ t ∧ t.heap[q]? = some ce ∧ ce.vm = .none ∧ s.vm.findClass E = some ce.cls ∧
      Steps p.tables e below (T.setTop g) ((T'.setTop { g with stack := rest }).pushFrame (.throwing q)))
def vx_X {S : Type} (px : S → Prop) (B : String → S → State → Prop) (A : Nat → Prop) : String → State → State → Prop := fun E st t => ∃ u : S, px u ∧ B E u t ∧ va_F A st t
section Runs
variable {p : Program} {l : Launch} {e : Env} {R : Room} {s : State} {m : MethodId} {args : Array Value} {below : List Frame} {meth : Method} {c : Code} {H : Heap} {locs : List Loc} {cells slots : Nat}
variable {y : MethodName} {bytes cc : ByteArray} {maxL nL mc ms n index : Nat} {ret : Option FieldType} {ws : List Cond} {rm : Room} {Pc : Array Value → State → Prop} {Qc : Array Value → State → Outcome → State → Prop} {XC : String → State → State → Prop} {free : Addr → Prop} {Ts : List Cond} {own C : String} {b : Addr} {As rest : List Value} {g : JFrame}
theorem vx_callBack (cb : CallB R s args own index y bytes maxL ret ws rm mc ms n) (hM : vx_Met l y ws rm Pc Qc XC mc ms free) (hbl : FrameBlind Pc) : vx_Back l R p e below s args y 3 8 (PreOf R mc ms Pc) (PostOf Qc mc ms free) (vx_Post XC mc ms free) := by
  obtain ⟨hrc, hrs, hfr, hlo, hws, hcw, -, hini, -⟩ := cb
  exact vx_back (bytes := bytes) (maxL := maxL) (ret := ret) hM hbl hrc hrs hfr hlo hws hcw (fun a' U hW => word_at hW (Or.inl (by first | rfl | simp [Cond.onTables, Cond.keeps, Cond.steady])) hini)
theorem vx_runV (S : CallFix p m c cc nL s args Ts own) (hM : vx_Met l y ws rm Pc Qc XC mc ms free) (cw : CallW R s args own C index y bytes maxL ret ws rm mc ms n) (hp : PreV s H C b Pc As)
    (hg : g.method = m) (hn : As.length = n) (hsize : g.locals.size = nL) (hstack : g.stack = As.reverse ++ .ref b :: rest) (hW : 2 * g.monitorRoom + (rest.map fun v => v.category).sum ≤ 8) (hdg : decode cc g.pc = .ok (.invokevirtual index, 3)) (hf : cells + mc ≤ R.cells ∧ slots + ms ≤ R.slots) :
    vx_Run p l e R s m args below meth c H locs cells slots mc ms g rest (Qc (Value.ref b :: As).toArray) XC free := by
  have hK : vx_Back l R p e below s args y 3 8 (PreOf R mc ms Pc) (PostOf Qc mc ms free) (vx_Post XC mc ms free) := vx_callBack cw.1 hM hp.1
  obtain ⟨⟨-, -, -, -, -, -, hcode, -, hy, hlen, hl⟩, hin, hse⟩ := cw
  obtain ⟨hx, hb, hml, ho, -⟩ := S
  obtain ⟨-, ⟨cellB, hcB, hoB, hclB⟩, hPc⟩ := hp
  intro T hT X
  rcases vx_callV X hx (C := C) (bytes := bytes) (maxL := maxL) (ret := ret) ho hl hin hse hcode hy hK (by rw [hT]; exact hcB) hoB hclB hg (hsize.trans hml.symm) (argsL := As) (rest := rest) (fun sig h => hn.trans (hlen sig h)) hstack hW (by rw [hb]; exact hdg)
    (fun vm₁ hW₁ => ⟨hf.1, hf.2, hPc (T.setVm vm₁) hT hW₁⟩) with ⟨v, vm₁, ⟨U', l2, c2, s2⟩, hW₁, X', ⟨g', mk, t, L, e1, e2, hq, h1, hL, h2, h3⟩, st⟩ | ⟨q, vm₁, ⟨U', l2, c2, s2⟩, hW₁, X', ⟨g', mk, t, L, E, ce, e1, e2, hq, hce, hcv, hcl, h1, hL, h2, h3⟩, st⟩
  · dsimp only [Pt.U, Pt.locs, Pt.cells, Pt.slots] at X' e1 e2 h1 h2 h3 st
    subst h1; subst h2; subst h3
    exact Or.inl ⟨v, (T.setVm vm₁).calling g' mk (Value.ref b :: As).toArray, t, U', L, hT, X', hL, e1, e2, hq, st⟩
  · dsimp only [Pt.U, Pt.locs, Pt.cells, Pt.slots] at X' e1 e2 h1 h2 h3 st hcl
    subst h1; subst h2; subst h3
    exact Or.inr ⟨q, (T.setVm vm₁).calling g' mk (Value.ref b :: As).toArray, t, U', L, E, ce, hT, X', hL, e1, e2, hq, hce, hcv, vx_cls hW₁ hcl, st⟩
theorem vx_runS (S : CallFix p m c cc nL s args Ts own) (hM : vx_Met l y ws rm Pc Qc XC mc ms free) (cw : CallB R s args own index y bytes maxL ret ws rm mc ms n ∧ (Cond.static y).before args s = true) (hp : PreS s H Pc As)
    (hg : g.method = m) (hn : As.length = n) (hsize : g.locals.size = nL) (hstack : g.stack = As.reverse ++ rest) (hW : 2 * g.monitorRoom + (rest.map fun v => v.category).sum ≤ 8) (hdg : decode cc g.pc = .ok (.invokestatic index, 3)) (hf : cells + mc ≤ R.cells ∧ slots + ms ≤ R.slots) :
    vx_Run p l e R s m args below meth c H locs cells slots mc ms g rest (Qc As.toArray) XC free := by
  have hK : vx_Back l R p e below s args y 3 8 (PreOf R mc ms Pc) (PostOf Qc mc ms free) (vx_Post XC mc ms free) := vx_callBack cw.1 hM hp.1
  obtain ⟨⟨-, -, -, -, -, -, hcode, hini, hy, hlen, hl⟩, hstt⟩ := cw
  obtain ⟨hx, hb, hml, ho, -⟩ := S
  intro T hT X
  rcases vx_callS X hx (bytes := bytes) (maxL := maxL) (ret := ret) ho hl hstt hini hcode hy hK hg (hsize.trans hml.symm) (argsL := As) (rest := rest) (fun sig h => hn.trans (hlen sig h)) hstack hW (by rw [hb]; exact hdg)
    (fun vm₁ hW₁ => ⟨hf.1, hf.2, hp.2 (T.setVm vm₁) hT hW₁⟩) with ⟨v, vm₁, ⟨U', l2, c2, s2⟩, hW₁, X', ⟨g', mk, t, L, e1, e2, hq, h1, hL, h2, h3⟩, st⟩ | ⟨q, vm₁, ⟨U', l2, c2, s2⟩, hW₁, X', ⟨g', mk, t, L, E, ce, e1, e2, hq, hce, hcv, hcl, h1, hL, h2, h3⟩, st⟩
  · dsimp only [Pt.U, Pt.locs, Pt.cells, Pt.slots] at X' e1 e2 h1 h2 h3 st
    subst h1; subst h2; subst h3
    exact Or.inl ⟨v, (T.setVm vm₁).calling g' mk As.toArray, t, U', L, hT, X', hL, e1, e2, hq, st⟩
  · dsimp only [Pt.U, Pt.locs, Pt.cells, Pt.slots] at X' e1 e2 h1 h2 h3 st hcl
    subst h1; subst h2; subst h3
    exact Or.inr ⟨q, (T.setVm vm₁).calling g' mk As.toArray, t, U', L, E, ce, hT, X', hL, e1, e2, hq, hce, hcv, vx_cls hW₁ hcl, st⟩
end Runs
section Rows
variable {p : Program} {l : Launch} {e : Env} {R : Room} {s : State} {m : MethodId} {args : Array Value} {below : List Frame} {meth : Method} {c : Code} {H : Heap} {locs : List Loc} {cells slots : Nat} {Q : State → Prop}
variable {mc ms : Nat} {free : Addr → Prop} {A0 A1 : Nat → Prop} {H0 : Heap} {a : Array Value} {pc : Nat} {ls : Array Slot} {st0 rest : List Value}
theorem vx_keep {st₀ t T' : State} {L : List Loc} (h0 : st₀.heap = H) (e1 : T'.heap = t.heap) (hS : va_S A0 H0 H locs) (hA : ∀ q, q < H.size → A1 q → A0 q) (hf : ∀ q, free q → A0 q) (hL : ∀ q ∈ L, free q.base) (hF : va_F A1 st₀ t) :
    H.size ≤ T'.heap.size ∧ (∀ q : Nat, q < H.size → ¬ A1 q → T'.heap[q]? = H[q]?) ∧ va_S A0 H0 T'.heap (locs ++ L) := by
  obtain ⟨hz, hk⟩ := hF
  rw [h0] at hz hk
  exact ⟨by rw [e1]; exact hz, fun q h1 h2 => by rw [e1]; exact hk q h1 h2,
    ⟨Nat.le_trans hS.1 (by rw [e1]; exact hz), fun q h1 h2 => by rw [e1, hk q (Nat.lt_of_lt_of_le h1 hS.1) (fun z => h2 (hA q (Nat.lt_of_lt_of_le h1 hS.1) z))]; exact hS.2.1 q h1 h2, fun q hq => by
      rcases List.mem_append.mp hq with h | h
      · exact hS.2.2 q h
      · exact hf _ (hL q h)⟩⟩
theorem vx_calli {S SX : Type} {post : Int32 → S → Prop} {px : SX → Prop} {B : S → State → Prop} {BX : String → SX → State → Prop} {AX : Nat → Prop} (hr : vx_Run p l e R s m args below meth c H locs cells slots mc ms (F0 m pc ls st0) rest (va_Qi post B A1 a) (vx_X px BX AX) free) (hS : va_S A0 H0 H locs) (hA : ∀ q, q < H.size → A1 q → A0 q) (hf : ∀ q, free q → A0 q) (hAX : ∀ q, q < H.size → AX q → A0 q)
    (kx : ∀ (E : String) (ce : Cell) (q9 : Addr) (u : SX) (t : State) (H1 : Heap) (locs1 : List Loc), t.heap = H1 → s.vm.Alike t.vm → px u → BX E u t → H.size ≤ H1.size → (∀ q : Nat, q < H.size → ¬ AX q → H1[q]? = H[q]?) → va_S A0 H0 H1 locs1 → H1[q9]? = some ce → ce.vm = .none → s.vm.findClass E = some ce.cls → vx_W p l e R s m args below meth c H1 locs1 (cells + mc) (slots + ms) Q (F0 m pc ls rest) q9)
    (kk : ∀ (r : Int32) (u : S) (t : State) (H1 : Heap) (locs1 : List Loc), t.heap = H1 → s.vm.Alike t.vm → post r u → B u t → H.size ≤ H1.size → (∀ q : Nat, q < H.size → ¬ A1 q → H1[q]? = H[q]?) → va_S A0 H0 H1 locs1 → W p l e R s m args below meth c H1 locs1 (cells + mc) (slots + ms) Q (F0 m (pc + 3) ls (.int r :: rest))) : W p l e R s m args below meth c H locs cells slots Q (F0 m pc ls st0) := by
  intro T hT X
  rcases hr T hT X with ⟨v, st₀, t, T', L, h0, X', hL, e1, e2, ⟨⟨r, u, hv, hp, hb⟩, hF⟩, st⟩ | ⟨q, st₀, t, T', L, E, ce, h0, X', hL, e1, e2, ⟨u, hp, hb, hF⟩, hce, hcv, hcl, st⟩
  · cases hv
    obtain ⟨k1, k2, k3⟩ := vx_keep h0 e1 hS hA hf hL hF
    obtain ⟨t2, a1, b1⟩ := kk r u t T'.heap (locs ++ L) e1.symm (by rw [← e2]; exact X'.warmed.alike) hp hb k1 k2 k3 T' rfl X'
    exact ⟨t2, st t2 a1, b1⟩
  · obtain ⟨k1, k2, k3⟩ := vx_keep h0 e1 hS hAX hf hL hF
    obtain ⟨t2, a1, b1⟩ := kx E ce q u t T'.heap (locs ++ L) e1.symm (by rw [← e2]; exact X'.warmed.alike) hp hb k1 k2 k3 (by rw [e1]; exact hce) hcv hcl T' rfl X'
    exact ⟨t2, st.trans a1, b1⟩
theorem vx_calll {S SX : Type} {post : Int64 → S → Prop} {px : SX → Prop} {B : S → State → Prop} {BX : String → SX → State → Prop} {AX : Nat → Prop} (hr : vx_Run p l e R s m args below meth c H locs cells slots mc ms (F0 m pc ls st0) rest (va_Ql post B A1 a) (vx_X px BX AX) free) (hS : va_S A0 H0 H locs) (hA : ∀ q, q < H.size → A1 q → A0 q) (hf : ∀ q, free q → A0 q) (hAX : ∀ q, q < H.size → AX q → A0 q)
    (kx : ∀ (E : String) (ce : Cell) (q9 : Addr) (u : SX) (t : State) (H1 : Heap) (locs1 : List Loc), t.heap = H1 → s.vm.Alike t.vm → px u → BX E u t → H.size ≤ H1.size → (∀ q : Nat, q < H.size → ¬ AX q → H1[q]? = H[q]?) → va_S A0 H0 H1 locs1 → H1[q9]? = some ce → ce.vm = .none → s.vm.findClass E = some ce.cls → vx_W p l e R s m args below meth c H1 locs1 (cells + mc) (slots + ms) Q (F0 m pc ls rest) q9)
    (kk : ∀ (r : Int64) (u : S) (t : State) (H1 : Heap) (locs1 : List Loc), t.heap = H1 → s.vm.Alike t.vm → post r u → B u t → H.size ≤ H1.size → (∀ q : Nat, q < H.size → ¬ A1 q → H1[q]? = H[q]?) → va_S A0 H0 H1 locs1 → W p l e R s m args below meth c H1 locs1 (cells + mc) (slots + ms) Q (F0 m (pc + 3) ls (.long r :: rest))) : W p l e R s m args below meth c H locs cells slots Q (F0 m pc ls st0) := by
  intro T hT X
  rcases hr T hT X with ⟨v, st₀, t, T', L, h0, X', hL, e1, e2, ⟨⟨r, u, hv, hp, hb⟩, hF⟩, st⟩ | ⟨q, st₀, t, T', L, E, ce, h0, X', hL, e1, e2, ⟨u, hp, hb, hF⟩, hce, hcv, hcl, st⟩
  · cases hv
    obtain ⟨k1, k2, k3⟩ := vx_keep h0 e1 hS hA hf hL hF
    obtain ⟨t2, a1, b1⟩ := kk r u t T'.heap (locs ++ L) e1.symm (by rw [← e2]; exact X'.warmed.alike) hp hb k1 k2 k3 T' rfl X'
    exact ⟨t2, st t2 a1, b1⟩
  · obtain ⟨k1, k2, k3⟩ := vx_keep h0 e1 hS hAX hf hL hF
    obtain ⟨t2, a1, b1⟩ := kx E ce q u t T'.heap (locs ++ L) e1.symm (by rw [← e2]; exact X'.warmed.alike) hp hb k1 k2 k3 (by rw [e1]; exact hce) hcv hcl T' rfl X'
    exact ⟨t2, st.trans a1, b1⟩
theorem vx_callf {S SX : Type} {post : UInt32 → S → Prop} {px : SX → Prop} {B : S → State → Prop} {BX : String → SX → State → Prop} {AX : Nat → Prop} (hr : vx_Run p l e R s m args below meth c H locs cells slots mc ms (F0 m pc ls st0) rest (va_Qf post B A1 a) (vx_X px BX AX) free) (hS : va_S A0 H0 H locs) (hA : ∀ q, q < H.size → A1 q → A0 q) (hf : ∀ q, free q → A0 q) (hAX : ∀ q, q < H.size → AX q → A0 q)
    (kx : ∀ (E : String) (ce : Cell) (q9 : Addr) (u : SX) (t : State) (H1 : Heap) (locs1 : List Loc), t.heap = H1 → s.vm.Alike t.vm → px u → BX E u t → H.size ≤ H1.size → (∀ q : Nat, q < H.size → ¬ AX q → H1[q]? = H[q]?) → va_S A0 H0 H1 locs1 → H1[q9]? = some ce → ce.vm = .none → s.vm.findClass E = some ce.cls → vx_W p l e R s m args below meth c H1 locs1 (cells + mc) (slots + ms) Q (F0 m pc ls rest) q9)
    (kk : ∀ (r : UInt32) (u : S) (t : State) (H1 : Heap) (locs1 : List Loc), t.heap = H1 → s.vm.Alike t.vm → post r u → B u t → H.size ≤ H1.size → (∀ q : Nat, q < H.size → ¬ A1 q → H1[q]? = H[q]?) → va_S A0 H0 H1 locs1 → W p l e R s m args below meth c H1 locs1 (cells + mc) (slots + ms) Q (F0 m (pc + 3) ls (.float r :: rest))) : W p l e R s m args below meth c H locs cells slots Q (F0 m pc ls st0) := by
  intro T hT X
  rcases hr T hT X with ⟨v, st₀, t, T', L, h0, X', hL, e1, e2, ⟨⟨r, u, hv, hp, hb⟩, hF⟩, st⟩ | ⟨q, st₀, t, T', L, E, ce, h0, X', hL, e1, e2, ⟨u, hp, hb, hF⟩, hce, hcv, hcl, st⟩
  · cases hv
    obtain ⟨k1, k2, k3⟩ := vx_keep h0 e1 hS hA hf hL hF
    obtain ⟨t2, a1, b1⟩ := kk r u t T'.heap (locs ++ L) e1.symm (by rw [← e2]; exact X'.warmed.alike) hp hb k1 k2 k3 T' rfl X'
    exact ⟨t2, st t2 a1, b1⟩
  · obtain ⟨k1, k2, k3⟩ := vx_keep h0 e1 hS hAX hf hL hF
    obtain ⟨t2, a1, b1⟩ := kx E ce q u t T'.heap (locs ++ L) e1.symm (by rw [← e2]; exact X'.warmed.alike) hp hb k1 k2 k3 (by rw [e1]; exact hce) hcv hcl T' rfl X'
    exact ⟨t2, st.trans a1, b1⟩
theorem vx_calld {S SX : Type} {post : UInt64 → S → Prop} {px : SX → Prop} {B : S → State → Prop} {BX : String → SX → State → Prop} {AX : Nat → Prop} (hr : vx_Run p l e R s m args below meth c H locs cells slots mc ms (F0 m pc ls st0) rest (va_Qd post B A1 a) (vx_X px BX AX) free) (hS : va_S A0 H0 H locs) (hA : ∀ q, q < H.size → A1 q → A0 q) (hf : ∀ q, free q → A0 q) (hAX : ∀ q, q < H.size → AX q → A0 q)
    (kx : ∀ (E : String) (ce : Cell) (q9 : Addr) (u : SX) (t : State) (H1 : Heap) (locs1 : List Loc), t.heap = H1 → s.vm.Alike t.vm → px u → BX E u t → H.size ≤ H1.size → (∀ q : Nat, q < H.size → ¬ AX q → H1[q]? = H[q]?) → va_S A0 H0 H1 locs1 → H1[q9]? = some ce → ce.vm = .none → s.vm.findClass E = some ce.cls → vx_W p l e R s m args below meth c H1 locs1 (cells + mc) (slots + ms) Q (F0 m pc ls rest) q9)
    (kk : ∀ (r : UInt64) (u : S) (t : State) (H1 : Heap) (locs1 : List Loc), t.heap = H1 → s.vm.Alike t.vm → post r u → B u t → H.size ≤ H1.size → (∀ q : Nat, q < H.size → ¬ A1 q → H1[q]? = H[q]?) → va_S A0 H0 H1 locs1 → W p l e R s m args below meth c H1 locs1 (cells + mc) (slots + ms) Q (F0 m (pc + 3) ls (.double r :: rest))) : W p l e R s m args below meth c H locs cells slots Q (F0 m pc ls st0) := by
  intro T hT X
  rcases hr T hT X with ⟨v, st₀, t, T', L, h0, X', hL, e1, e2, ⟨⟨r, u, hv, hp, hb⟩, hF⟩, st⟩ | ⟨q, st₀, t, T', L, E, ce, h0, X', hL, e1, e2, ⟨u, hp, hb, hF⟩, hce, hcv, hcl, st⟩
  · cases hv
    obtain ⟨k1, k2, k3⟩ := vx_keep h0 e1 hS hA hf hL hF
    obtain ⟨t2, a1, b1⟩ := kk r u t T'.heap (locs ++ L) e1.symm (by rw [← e2]; exact X'.warmed.alike) hp hb k1 k2 k3 T' rfl X'
    exact ⟨t2, st t2 a1, b1⟩
  · obtain ⟨k1, k2, k3⟩ := vx_keep h0 e1 hS hAX hf hL hF
    obtain ⟨t2, a1, b1⟩ := kx E ce q u t T'.heap (locs ++ L) e1.symm (by rw [← e2]; exact X'.warmed.alike) hp hb k1 k2 k3 (by rw [e1]; exact hce) hcv hcl T' rfl X'
    exact ⟨t2, st.trans a1, b1⟩
theorem vx_callv {S SX : Type} {post : S → Prop} {px : SX → Prop} {B : S → State → Prop} {BX : String → SX → State → Prop} {AX : Nat → Prop} (hr : vx_Run p l e R s m args below meth c H locs cells slots mc ms (F0 m pc ls st0) rest (va_Qv post B A1 a) (vx_X px BX AX) free) (hS : va_S A0 H0 H locs) (hA : ∀ q, q < H.size → A1 q → A0 q) (hf : ∀ q, free q → A0 q) (hAX : ∀ q, q < H.size → AX q → A0 q)
    (kx : ∀ (E : String) (ce : Cell) (q9 : Addr) (u : SX) (t : State) (H1 : Heap) (locs1 : List Loc), t.heap = H1 → s.vm.Alike t.vm → px u → BX E u t → H.size ≤ H1.size → (∀ q : Nat, q < H.size → ¬ AX q → H1[q]? = H[q]?) → va_S A0 H0 H1 locs1 → H1[q9]? = some ce → ce.vm = .none → s.vm.findClass E = some ce.cls → vx_W p l e R s m args below meth c H1 locs1 (cells + mc) (slots + ms) Q (F0 m pc ls rest) q9)
    (kk : ∀ (u : S) (t : State) (H1 : Heap) (locs1 : List Loc), t.heap = H1 → s.vm.Alike t.vm → post u → B u t → H.size ≤ H1.size → (∀ q : Nat, q < H.size → ¬ A1 q → H1[q]? = H[q]?) → va_S A0 H0 H1 locs1 → W p l e R s m args below meth c H1 locs1 (cells + mc) (slots + ms) Q (F0 m (pc + 3) ls (rest))) : W p l e R s m args below meth c H locs cells slots Q (F0 m pc ls st0) := by
  intro T hT X
  rcases hr T hT X with ⟨v, st₀, t, T', L, h0, X', hL, e1, e2, ⟨⟨u, hv, hp, hb⟩, hF⟩, st⟩ | ⟨q, st₀, t, T', L, E, ce, h0, X', hL, e1, e2, ⟨u, hp, hb, hF⟩, hce, hcv, hcl, st⟩
  · cases hv
    obtain ⟨k1, k2, k3⟩ := vx_keep h0 e1 hS hA hf hL hF
    obtain ⟨t2, a1, b1⟩ := kk u t T'.heap (locs ++ L) e1.symm (by rw [← e2]; exact X'.warmed.alike) hp hb k1 k2 k3 T' rfl X'
    exact ⟨t2, st t2 a1, b1⟩
  · obtain ⟨k1, k2, k3⟩ := vx_keep h0 e1 hS hAX hf hL hF
    obtain ⟨t2, a1, b1⟩ := kx E ce q u t T'.heap (locs ++ L) e1.symm (by rw [← e2]; exact X'.warmed.alike) hp hb k1 k2 k3 (by rw [e1]; exact hce) hcv hcl T' rfl X'
    exact ⟨t2, st.trans a1, b1⟩
/-- caught by the row x of this method's table; the rows ahead don't take it -/
theorem vx_catch {own name : String} {E : String} {ce : Cell} {q : Addr} (hown : s.vm.findClass own = some m.cls) (pre : List ExceptionTableEntry) (x : ExceptionTableEntry) (suf : List ExceptionTableEntry) (hsplit : c.exceptionTable.toList = pre ++ x :: suf)
    (hpass : ∀ z ∈ pre, covers z pc = false ∨ (z.catchType ≠ 0 ∧ ∃ nm : String, (Cond.classLink own z.catchType nm).before args s = true ∧ va_Nc E nm s)) (hx : covers x pc = true) (h0 : x.catchType ≠ 0)
    (hlink : (Cond.classLink own x.catchType name).before args s = true) (hcast : (Cond.castable E name).before args s = true) (hcell : H[q]? = some ce) (hv : ce.vm = .none) (hcl : s.vm.findClass E = some ce.cls)
    (kk : W p l e R s m args below meth c H locs cells slots Q (F0 m x.handlerPc ls [.ref q])) : vx_W p l e R s m args below meth c H locs cells slots Q (F0 m pc ls rest) q := by
  intro T hT X
  have hpl : e.platform.magicAccessors = ({} : Platform).magicAccessors := by rw [X.admits.platform]
  obtain ⟨c3, c4, hc3, hc4, hasg⟩ := Cond.castable_spec hcast
  cases Option.some.inj (hc3.symm.trans hcl)
  obtain ⟨c5, hc5, hcl5⟩ := Cond.classLink_spec hown hlink e.platform hpl
  cases Option.some.inj (hc4.symm.trans hc5)
  obtain ⟨vm', X', st⟩ := X.thenCaughtThrough q (g := F0 m pc ls rest) rfl (Steps.refl _) (by rw [hT]; exact hcell) (by rw [hv]; rfl) (by obtain ⟨k9, h9, -⟩ := Vm.findClass_spec hcl; exact ⟨k9, h9⟩) pre x suf hsplit
    (fun z hz => by
      rcases hpass z hz with h | ⟨hz0, nm, hl1, hn1⟩
      · exact Or.inl h
      · obtain ⟨c6, hc6, hcl6⟩ := Cond.classLink_spec hown hl1 e.platform hpl
        obtain ⟨a8, b8, h1, h2, h3⟩ := hn1
        cases Option.some.inj (h1.symm.trans hcl)
        cases Option.some.inj (h2.symm.trans hc6)
        exact Or.inr ⟨hz0, _, hcl6, h3⟩) hx (Or.inr ⟨h0, c4, hcl5, hasg⟩)
  obtain ⟨t, a1, b1⟩ := kk (T.setVm vm') hT X'
  exact ⟨t, st.trans a1, b1⟩
end Rows
section Ends
variable {p : Program} {l : Launch} {e : Env} {R : Room} {s : State} {m : MethodId} {args : Array Value} {below : List Frame} {meth : Method} {c : Code} {H : Heap} {locs : List Loc} {cells slots : Nat} {Q : State → Prop}
variable {mc ms : Nat} {free : Addr → Prop} {A0 A1 : Nat → Prop} {H0 : Heap} {a : Array Value} {ls : Array Slot} {st0 rest : List Value}
variable {Qc : Array Value → State → Outcome → State → Prop} {XC : String → State → State → Prop}
/-- what a body that may throw owes at its end -/
def vx_MQ (below : List Frame) (Qc : Array Value → State → Outcome → State → Prop) (XC : String → State → State → Prop) (a : Array Value) (s : State) (mc ms : Nat) (free : Addr → Prop) : State → Prop := fun t =>
  ∃ o, t.status = .running ∧ Ended t below o ∧ vx_Q Qc XC mc ms free a s o t
theorem vx_ret {g : JFrame} {mc ms : Nat} (k : W p l e R s m args below meth c H locs cells slots (MQ below Qc args s mc ms free) g) : W p l e R s m args below meth c H locs cells slots (vx_MQ below Qc XC args s mc ms free) g := by
  intro T hT X
  obtain ⟨t, a1, o, b1, b2, b3, b4⟩ := k T hT X
  exact ⟨t, a1, o, b1, b2, Or.inl ⟨b3, b4⟩⟩
/-- not caught here: it goes on to the caller -/
theorem vx_widen {g : JFrame} {q : Addr} {k n : Nat} (h1 : cells ≤ k) (h2 : slots ≤ n) (kk : vx_W p l e R s m args below meth c H locs k n Q g q) : vx_W p l e R s m args below meth c H locs cells slots Q g q := fun T hT X => kk T hT (stand_widen X h1 h2)
theorem vx_out {pc : Nat} {E : String} {ce : Cell} {q : Addr} {mc ms : Nat} (hout : ∀ x ∈ c.exceptionTable.toList, covers x pc = false) (hlocks : meth.locks = false) (hcell : H[q]? = some ce) (hv : ce.vm = .none) (hcl : s.vm.findClass E = some ce.cls)
    (hx : ∀ t : State, t.heap = H → s.vm.Alike t.vm → XC E s t) (hf : ∀ z ∈ locs, free z.base) (hc : cells ≤ mc) (hs : slots ≤ ms) :
    vx_W p l e R s m args below meth c H locs cells slots (vx_MQ below Qc XC args s mc ms free) (F0 m pc ls rest) q := by
  intro T hT X
  obtain ⟨st1, hrun, hend, hW, hsm⟩ := X.leaveThrown q (g := F0 m pc ls rest) rfl rfl rfl hout hlocks
  have hcell9 : (T.setFrames (.throwing q :: below)).heap[q]? = some ce := by
    show T.heap[q]? = some ce
    rw [hT]; exact hcell
  exact ⟨_, st1, .threw q, hrun, hend, Or.inr ⟨q, rfl, E, ce, locs, hx _ hT hW.alike, hcell9, hv, hcl, hW, hsm.mono hc hs, hf⟩⟩
theorem vx_frame {U : State} {k n : Nat} (h : s.sameButNew ({ U with vm := s.vm } : State) locs k n) : s.heap.size ≤ U.heap.size ∧ ∀ q : Nat, q < s.heap.size → (∀ z ∈ locs, z.base ≠ q) → U.heap[q]? = s.heap[q]? := by
  obtain ⟨-, h2, -, -, -, h6⟩ := h
  refine ⟨h2, fun q hq hz => ?_⟩
  obtain ⟨c9, e1, e2, e3, e4⟩ := h6 q _ (Array.getElem?_eq_getElem hq)
  have hs : c9.slots = (s.heap[q]).slots := Array.ext_getElem? fun i => e4 i fun hm => hz _ hm rfl
  have h9 : c9 = s.heap[q] := by
    rw [hs] at e2
    exact e2
  have e5 : U.heap[q]? = some c9 := e1
  rw [e5, h9, Array.getElem?_eq_getElem hq]
/-- the words of a throw but the four that speak of the heap -/
def vx_no (w : Cond) : Bool := decide (w ≠ .isRef (.static Bundle.tN "UNASSIGNED_STACK" Bundle.steD)) && decide (w ≠ .isRef (.static Bundle.tN "SUPPRESSED_SENTINEL" Bundle.listD)) && decide (w ≠ .laysStatic Bundle.tN "UNASSIGNED_STACK" Bundle.steD) && decide (w ≠ .laysStatic Bundle.tN "SUPPRESSED_SENTINEL" Bundle.listD)
def vx_at0 (own : String) (ic : Nat) (X : String) (names : List String) : List Cond := (Bundle.ownAtoms0 own ic X names).filter vx_no
def vx_atS (own : String) (ic : Nat) (X : String) (names : List String) : List Cond := (Bundle.ownAtoms own ic X names).filter vx_no
/-- a word that the tables alone decide, or a good one -/
def vx_ot (w : Cond) : Bool := w.onTables || goodWord w
theorem vx_ot_at {args a' : Array Value} {s U : State} {w : Cond} (hW : s.WarmedH U.vm) (hvm : s.vm = U.vm) (hg : vx_ot w = true) (h : w.before args s = true) : w.before a' U = true := by
  simp only [vx_ot, Bool.or_eq_true] at hg
  rcases hg with hg | hg
  · exact va_tabs hg hvm h
  · exact word_at hW (good_of_word hg) h
/-- a list's words: the good ones out of the method's own list, the others by premises of their own -/
theorem vx_hat {args : Array Value} {s : State} {L B : List Cond} (h1 : ∀ w ∈ L.filter goodWord, w.before args s = true) (h2 : ∀ w ∈ L.filter (fun w => !goodWord w), w ∈ B) (h3 : ∀ w ∈ B, w.before args s = true) : ∀ w ∈ L, w.before args s = true := by
  intro w hw
  by_cases g : goodWord w = true
  · exact h1 w (List.mem_filter.mpr ⟨hw, g⟩)
  · refine h3 w (h2 w (List.mem_filter.mpr ⟨hw, ?_⟩))
    show (!goodWord w) = true
    cases hgw : goodWord w
    · rfl
    · exact absurd hgw g
theorem vx_c {args : Array Value} {s : State} {w : Cond} {B : List Cond} (h : w.before args s = true) (t : ∀ w ∈ B, w.before args s = true) : ∀ w' ∈ w :: B, w'.before args s = true := fun w' h' => (List.mem_cons.mp h').elim (fun e => by rw [e]; exact h) (t w')
theorem vx_n {args : Array Value} {s : State} : ∀ w ∈ ([] : List Cond), w.before args s = true := fun _ h => nomatch h
theorem vx_own {args : Array Value} {s : State} {L : List Cond} (h1 : ∀ w ∈ L.filter vx_no, w.before args s = true)
    (hU : (Cond.isRef (.static Bundle.tN "UNASSIGNED_STACK" Bundle.steD)).before args s = true) (hN : (Cond.isRef (.static Bundle.tN "SUPPRESSED_SENTINEL" Bundle.listD)).before args s = true)
    (lU : (Cond.laysStatic Bundle.tN "UNASSIGNED_STACK" Bundle.steD).before args s = true) (lN : (Cond.laysStatic Bundle.tN "SUPPRESSED_SENTINEL" Bundle.listD).before args s = true) : ∀ w ∈ L, w.before args s = true := by
  intro w hw
  by_cases e1 : w = .isRef (.static Bundle.tN "UNASSIGNED_STACK" Bundle.steD)
  · rw [e1]; exact hU
  · by_cases e2 : w = .isRef (.static Bundle.tN "SUPPRESSED_SENTINEL" Bundle.listD)
    · rw [e2]; exact hN
    · by_cases e3 : w = .laysStatic Bundle.tN "UNASSIGNED_STACK" Bundle.steD
      · rw [e3]; exact lU
      · by_cases e4 : w = .laysStatic Bundle.tN "SUPPRESSED_SENTINEL" Bundle.listD
        · rw [e4]; exact lN
        · exact h1 w (List.mem_filter.mpr ⟨hw, by unfold vx_no; rw [decide_eq_true e1, decide_eq_true e2, decide_eq_true e3, decide_eq_true e4]; rfl⟩)
/-- where a static field lies, its class's statics cell in H -/
def vx_L (C n d : String) (A : Nat → Prop) (U : State) (H : Heap) : Prop := ∃ (c : ClassId) (k : Class) (i : Nat) (f : Field) (a : Nat) (cell : Cell), U.vm.findClass C = some c ∧ U.fieldFound? C n d = some (c, k, i, f) ∧ f.isStatic = true ∧ k.statics = some a ∧ H[a]? = some cell ∧ cell.vm.isStatics = true ∧ cell.cls = c ∧ f.slot < cell.slots.size ∧ k.staticTypes[f.slot]? = some f.type ∧ ¬ A a
theorem vx_L.moved {C n d : String} {A : Nat → Prop} {u U : State} {H : Heap} (hvm : u.vm.Alike U.vm) (h : vx_L C n d A u H) : vx_L C n d A U H := by
  obtain ⟨c, k, i, f, a, cell, h1, h2, h3, h4, h5, h6, h7, h8, h9, h10⟩ := h
  obtain ⟨k', hi', he⟩ := State.fieldFound?_setVm hvm h2
  exact ⟨c, k', i, f, a, cell, by rw [hvm.findClass]; exact h1, hi', h3, by rw [he]; exact h4, h5, h6, h7, h8, by rw [he]; exact h9, h10⟩
theorem vx_L.kept {C n d : String} {A : Nat → Prop} {U : State} {H H1 : Heap} (h : vx_L C n d A U H) (hq : ∀ a : Nat, a < H.size → ¬ A a → H1[a]? = H[a]?) : vx_L C n d A U H1 := by
  obtain ⟨c, k, i, f, a, cell, h1, h2, h3, h4, h5, h6, h7, h8, h9, h10⟩ := h
  exact ⟨c, k, i, f, a, cell, h1, h2, h3, h4, by rw [hq a (Array.getElem?_eq_some_iff.mp h5).1 h10]; exact h5, h6, h7, h8, h9, h10⟩
theorem vx_L.narrow {C n d : String} {A B : Nat → Prop} {U : State} {H : Heap} (h : vx_L C n d A U H) (hAB : ∀ q, B q → A q) : vx_L C n d B U H := by
  obtain ⟨c, k, i, f, a, cell, h1, h2, h3, h4, h5, h6, h7, h8, h9, h10⟩ := h
  exact ⟨c, k, i, f, a, cell, h1, h2, h3, h4, h5, h6, h7, h8, h9, fun z => h10 (hAB _ z)⟩
theorem vx_L.word {C n d : String} {A : Nat → Prop} {s : State} {args : Array Value} (h : vx_L C n d A s s.heap) : (Cond.laysStatic C n d).before args s = true := by
  obtain ⟨c, k, i, f, a, cell, h1, h2, h3, h4, h5, h6, h7, h8, h9, -⟩ := h
  show (Cond.laysStatic C n d).holds args s none s [] = true
  exact Cond.laysStatic_of h1 h2 h3 h4 h5 h6 h7 h8 h9
/-- .. and what it holds: null or some reference -/
def vx_Zq (C n d : String) (A : Nat → Prop) (U : State) (H : Heap) : Prop := va_Zq C n d A U H ∧ vx_L C n d A U H
theorem vx_Zq.moved {C n d : String} {A : Nat → Prop} {u U : State} {H : Heap} (hvm : u.vm.Alike U.vm) (h : vx_Zq C n d A u H) : vx_Zq C n d A U H := ⟨va_Zq.moved hvm h.1, vx_L.moved hvm h.2⟩
theorem vx_Zq.kept {C n d : String} {A : Nat → Prop} {U : State} {H H1 : Heap} (h : vx_Zq C n d A U H) (hq : ∀ a : Nat, a < H.size → ¬ A a → H1[a]? = H[a]?) : vx_Zq C n d A U H1 := ⟨va_Zq.kept h.1 hq, vx_L.kept h.2 hq⟩
theorem vx_Zq.narrow {C n d : String} {A B : Nat → Prop} {U : State} {H : Heap} (h : vx_Zq C n d A U H) (hAB : ∀ q, B q → A q) : vx_Zq C n d B U H := ⟨va_Zq.narrow h.1 hAB, vx_L.narrow h.2 hAB⟩
theorem vx_Zqof {args : Array Value} {s : State} {C n d : String} {A : Nat → Prop} (hl : (Cond.laysStatic C n d).before args s = true) (hini : (Cond.initialized C).before args s = true) (h : (Cond.isRef (.static C n d)).before args s = true) (hA : ∀ a : Nat, a < s.heap.size → ¬ A a) : vx_Zq C n d A s s.heap := by
  refine ⟨va_Zqof hl hini h hA, ?_⟩
  obtain ⟨c, k, i, f, a, cell, h1, h2, h3, h4, h5, h6, h7, h8, h9⟩ := Cond.laysStatic_spec hl
  exact ⟨c, k, i, f, a, cell, h1, h2, h3, h4, h5, h6, h7, h8, h9, hA a (Array.getElem?_eq_some_iff.mp h5).1⟩
theorem vx_isRef {C n d : String} {v : Value} {A : Nat → Prop} {s : State} {args : Array Value} (h : va_Z C n d v A s s.heap) (hv : v.isRef = true) : (Cond.isRef (.static C n d)).before args s = true := by
  obtain ⟨cf, kf, fi, f, a, cell, h1, h2, h3, h4, h5, h6, h7, -⟩ := h
  have he : (Term.static C n d).eval args s none [] s = some v := by
    simp [Term.eval, State.fieldNamed?, h1, h2, h4, h5, h6, h7]
  simp only [Cond.before, Cond.holds, Cond.value, he]
  cases v <;> simp_all [Value.isRef]
theorem vx_isRefq {C n d : String} {A : Nat → Prop} {s : State} {args : Array Value} (h : va_Zq C n d A s s.heap) : (Cond.isRef (.static C n d)).before args s = true := by
  rcases h with h | ⟨t, h⟩
  · exact vx_isRef h rfl
  · exact vx_isRef h rfl
/-- the same frame, seen from here: as if the method were called anew in this heap -/
theorem vx_rebase {T : State} (X : Stand p l e R s m args below meth c T locs cells slots) {R' : Room} (hf : R'.frames ≤ R.frames) (hl : R'.locals ≤ R.locals) (hc : cells + R'.cells ≤ R.cells) (hs : slots + R'.slots ≤ R.slots) :
    Stand p l e R' ((T.setVm s.vm).setFrames (.invoking m args :: below)) m args below meth c T [] 0 0 := by
  have htop : (T.setVm s.vm).topJava?.isSome := X.here.top
  have hF : ((T.setVm s.vm).setFrames (.invoking m args :: below)).frames = .invoking m args :: below := State.frames_setFrames _ (State.cur_lt_of_top htop)
  obtain ⟨g₀, hg0⟩ := Option.isSome_iff_exists.mp htop
  obtain ⟨r, hr⟩ := State.topJava?_eq_some.mp hg0
  have hl9 : e.platform.stackLimits (T.setVm s.vm).me = e.platform.stackLimits s.me := X.limits
  have hb9 : (T.setVm s.vm).me.stackBytes = s.me.stackBytes := X.bytes
  refine ⟨X.admits, X.cas, X.clock, hF, ?_, X.hears, X.method, X.code, X.here, X.tail, X.warmed, ?_, ?_, ?_⟩
  · have h := X.room
    have hU : ((T.setVm s.vm).setFrames (.invoking m args :: below)).localsInUse = s.localsInUse := by
      rw [State.localsInUse_invoking hF (meth := meth) (c := c) X.method X.code, State.localsInUse_invoking X.frames X.method X.code]
    simp only [State.hasRoom, Bool.and_eq_true, decide_eq_true_eq] at h ⊢
    obtain ⟨⟨⟨⟨h1, h2, h3, h4, h5, h6⟩, h7⟩, h8⟩, h9⟩ := h
    rw [X.frames, List.length_cons] at h2 h3
    have q1 := X.heapSize
    have q2 := X.used
    simp only [hF, hU, List.length_cons, State.stackLimits_setFrames, State.stackBytes_setFrames, hl9, hb9]
    refine ⟨⟨⟨⟨by omega, by omega, by omega, by omega, by omega, h6⟩, ?_⟩, ?_⟩, X.book⟩
    · show T.heap.size + R'.cells ≤ e.platform.maxCells
      omega
    · show T.slotsUsed + R'.slots ≤ e.platform.maxSlots
      omega
  · rw [State.stackLimits_setFrames]; rfl
  · rw [State.stackBytes_setFrames]; rfl
  · refine ⟨?_, Nat.le_refl _, Nat.le_refl _, ?_, ?_, fun a c9 h9 => ⟨c9, h9, rfl, rfl, fun _ _ => rfl⟩⟩
    · obtain ⟨t, ht, -⟩ := State.frames_cons hr
      show T.setVm s.vm = { ((T.setVm s.vm).setFrames (.invoking m args :: below)).setFrames (T.setVm s.vm).frames with heap := T.heap, slotsUsed := T.slotsUsed }
      rw [State.setFrames_setFrames, State.setFrames_self ht]
      rfl
    · show T.slotsUsed = T.slotsUsed + ((T.heap.toList.drop T.heap.size).map (·.slots.size)).sum
      rw [List.drop_eq_nil_of_le (Nat.le_of_eq Array.length_toList)]
      rfl
    · show ((T.heap.toList.drop T.heap.size).map (·.slots.size)).sum ≤ 0
      rw [List.drop_eq_nil_of_le (Nat.le_of_eq Array.length_toList)]
      exact Nat.le_refl _
/-- 'throw new E()': new; dup; invokespecial; athrow -/
theorem vx_throw0 {cc : ByteArray} {pc : Nat} (hexec : p.tables.exec = Jvm.exec) (hb : c.code = cc) (hl : l.stackTraces = false) {own cls : String} {names : List String} {ik ic mc ms : Nat} {A : Nat → Prop}
    (hown : s.vm.findClass own = some m.cls) (hcls : Bundle.fit cls = true) (hnames : ∀ n ∈ names, Bundle.fit n = true)
    (hk : (Cond.classLink own ik cls).before args s = true) (hini : (Cond.initialized cls).before args s = true) (hat : ∀ w ∈ vx_at0 own ic cls names, w.before args s = true)
    (hgood : ∀ w ∈ Cond.classLink own ik cls :: Cond.initialized cls :: vx_at0 own ic cls names, vx_ot w = true)
    (hU : vx_Zq Bundle.tN "UNASSIGNED_STACK" Bundle.steD A s s.heap) (hN : vx_Zq Bundle.tN "SUPPRESSED_SENTINEL" Bundle.listD A s s.heap) (hS : va_S A s.heap H locs) (hsize : ls.size = c.maxLocals)
    (d0 : decode cc pc = .ok (.new ik, 3)) (d3 : decode cc (pc + 3) = .ok (.dup, 1)) (d4 : decode cc (pc + 4) = .ok (.invokespecial ic, 3)) (d7 : decode cc (pc + 7) = .ok (.athrow, 1))
    (hout : ∀ x ∈ c.exceptionTable.toList, covers x (pc + 7) = false)
    (hRframes : names.length + 3 < R.frames) (hRlocals : (rest.map fun v => v.category).sum + (13 * (names.length + 1) + 42) ≤ R.locals) (hRcells : cells + 1 ≤ R.cells) (hRslots : slots + 6 ≤ R.slots) (hlocks : meth.locks = false)
    (hx : ∀ t : State, s.vm.Alike t.vm → H.size ≤ t.heap.size → (∀ q : Nat, q < H.size → t.heap[q]? = H[q]?) → XC cls s t)
    (hf : ∀ z ∈ locs, free z.base) (hc : cells + 1 ≤ mc) (hs : slots + 6 ≤ ms) :
    W p l e R s m args below meth c H locs cells slots (vx_MQ below Qc XC args s mc ms free) (F0 m pc ls rest) := by
  intro T hT X
  have htr : e.platform.stackTraces = false := (show e.platform.stackTraces = l.stackTraces by rw [X.admits.platform]).trans hl
  have Y := vx_rebase X (R' := { frames := R.frames, locals := R.locals, cells := 1, slots := 6 }) (Nat.le_refl _) (Nat.le_refl _) hRcells hRslots
  obtain ⟨s', hA⟩ : ∃ z, z = (T.setVm s.vm).setFrames (.invoking m args :: below) := ⟨_, rfl⟩
  rw [← hA] at Y
  have hvm : s'.vm = s.vm := by rw [hA]; rfl
  have hhp : s'.heap = H := by rw [hA]; exact hT
  have hW0 : s.WarmedH s'.vm := by rw [hvm]; exact State.WarmedH.refl s
  have hat' : ∀ w ∈ vx_at0 own ic cls names, w.before args s' = true := fun w hw => vx_ot_at hW0 hvm.symm (hgood w (List.mem_cons_of_mem _ (List.mem_cons_of_mem _ hw))) (hat w hw)
  have hk' : (Cond.classLink own ik cls).before args s' = true := vx_ot_at hW0 hvm.symm (hgood _ List.mem_cons_self) hk
  have hini' : (Cond.initialized cls).before args s' = true := vx_ot_at hW0 hvm.symm (hgood _ (List.mem_cons_of_mem _ List.mem_cons_self)) hini
  have hU' : vx_Zq Bundle.tN "UNASSIGNED_STACK" Bundle.steD A s' s'.heap := by rw [hhp]; exact vx_Zq.moved hW0.alike (hU.kept hS.2.1)
  have hN' : vx_Zq Bundle.tN "SUPPRESSED_SENTINEL" Bundle.listD A s' s'.heap := by rw [hhp]; exact vx_Zq.moved hW0.alike (hN.kept hS.2.1)
  have h : ∀ w ∈ Bundle.ownAtoms0 own ic cls names, w.before args s' = true := vx_own hat' (vx_isRefq hU'.1) (vx_isRefq hN'.1) hU'.2.word hN'.2.word
  have hown' : s'.vm.findClass own = some m.cls := by rw [hvm]; exact hown
  have hins : (Cond.instantiable cls 6).before args s' = true := h _ (by simp [Bundle.ownAtoms0])
  obtain ⟨vm₁, cX, kX, hfX, hkX, -, -, X₁, st1⟩ := Y.newCold hexec (own := own) (C := cls) (index := ik) (n := 6) hown' hk' hins hini'
    (g := F0 m pc ls rest) rfl (by rw [hb]; exact d0) (Nat.le_refl _) (Nat.le_refl _)
  generalize hT1 : (T.setVm vm₁).pushCell { cls := cX, slots := kX.instanceTypes.map defaultValue, vm := .none } = T1 at X₁ st1
  have hcat : (Value.ref T.heap.size).category = 1 := rfl
  have hcellA : T1.heap[T.heap.size]? = some (freshCell cX kX) := by rw [← hT1]; exact State.heap_pushCell_size _ _
  have d3' : decode c.code (pc + 3) = .ok (.dup, 1) := by rw [hb]; exact d3
  obtain ⟨U, hsteps, hrun, hend, hW, hsame, ce, hce, hO⟩ := X₁.ctorThrow0 hexec htr (own := own) (cls := cls) (names := names) (ic := ic) hown' hcls hnames h (fun x hx => nomatch hx) hfX hkX hcellA (by rw [hhp, hT]; exact Nat.le_refl _)
    (g := { method := m, pc := pc + 4, locals := ls, stack := .ref T.heap.size :: .ref T.heap.size :: rest, locked := none }) rfl hsize rfl rfl (rest := rest) rfl
    (by rw [hb]; exact d4) (by rw [hb]; exact d7) hout hRframes (by simp only [List.map_cons, List.sum_cons, hcat]; omega) hlocks
  obtain ⟨f1, f2⟩ := vx_frame hsame
  rw [hhp] at f1 f2
  have hWs : s.WarmedH U.vm := State.WarmedH.trans hW0 hW
  have hcl : s.vm.findClass cls = some ce.cls := by
    have h9 := hO.cls
    rw [hvm] at h9
    exact h9
  have hall : s.sameButNew ({ U with vm := s.vm } : State) locs mc ms := by
    subst hA
    obtain ⟨e1, e2⟩ := hsame
    rw [State.setFrames_setFrames] at e1
    have h2 : (T.setVm s.vm).sameButNew ({ U with vm := s.vm } : State) [] (0 + 1) (0 + 6) := ⟨e1, e2⟩
    have h3 := X.same.trans h2
    rw [List.append_nil] at h3
    exact h3.mono hc hs
  refine ⟨U, ?_, .threw T.heap.size, hrun, hend, Or.inr ⟨T.heap.size, rfl, cls, ce, locs, hx U hWs.alike f1 (fun q hq => f2 q hq (fun z hz => nomatch hz)), hce, hO.vm, hcl, hWs, hall, hf⟩⟩
  refine st1 _ ?_
  show Steps p.tables e below (T1.setTop { method := m, pc := pc + 3, locals := ls, stack := .ref T.heap.size :: rest, locked := none }) _
  jvm_step X₁.here [X₁.here.top, hexec, d3', Value.category]
  exact hsteps
/-- 'throw new E("text")': new; dup; ldc; invokespecial; athrow -/
theorem vx_throwS {cc : ByteArray} {pc : Nat} (hexec : p.tables.exec = Jvm.exec) (hb : c.code = cc) (hl : l.stackTraces = false) {own cls text : String} {names : List String} {ik is ic mc ms sa : Nat} {A : Nat → Prop}
    (hown : s.vm.findClass own = some m.cls) (hcls : Bundle.fit cls = true) (hnames : ∀ n ∈ names, Bundle.fit n = true)
    (hk : (Cond.classLink own ik cls).before args s = true) (hini : (Cond.initialized cls).before args s = true) (hstr : vk_R own is text sa s) (hat : ∀ w ∈ vx_atS own ic cls names, w.before args s = true)
    (hgood : ∀ w ∈ Cond.classLink own ik cls :: Cond.initialized cls :: vx_atS own ic cls names, vx_ot w = true)
    (hU : vx_Zq Bundle.tN "UNASSIGNED_STACK" Bundle.steD A s s.heap) (hN : vx_Zq Bundle.tN "SUPPRESSED_SENTINEL" Bundle.listD A s s.heap) (hS : va_S A s.heap H locs) (hsize : ls.size = c.maxLocals)
    (d0 : decode cc pc = .ok (.new ik, 3)) (d3 : decode cc (pc + 3) = .ok (.dup, 1)) (d4 : decode cc (pc + 4) = .ok (.ldc is, 2)) (d6 : decode cc (pc + 6) = .ok (.invokespecial ic, 3)) (d9 : decode cc (pc + 9) = .ok (.athrow, 1))
    (hout : ∀ x ∈ c.exceptionTable.toList, covers x (pc + 9) = false)
    (hRframes : names.length + 3 < R.frames) (hRlocals : (rest.map fun v => v.category).sum + (13 * (names.length + 1) + 43) ≤ R.locals) (hRcells : cells + 1 ≤ R.cells) (hRslots : slots + 6 ≤ R.slots) (hlocks : meth.locks = false)
    (hx : ∀ t : State, s.vm.Alike t.vm → H.size ≤ t.heap.size → (∀ q : Nat, q < H.size → t.heap[q]? = H[q]?) → XC cls s t)
    (hf : ∀ z ∈ locs, free z.base) (hc : cells + 1 ≤ mc) (hs : slots + 6 ≤ ms) :
    W p l e R s m args below meth c H locs cells slots (vx_MQ below Qc XC args s mc ms free) (F0 m pc ls rest) := by
  intro T hT X
  have htr : e.platform.stackTraces = false := (show e.platform.stackTraces = l.stackTraces by rw [X.admits.platform]).trans hl
  have Y := vx_rebase X (R' := { frames := R.frames, locals := R.locals, cells := 1, slots := 6 }) (Nat.le_refl _) (Nat.le_refl _) hRcells hRslots
  obtain ⟨s', hA⟩ : ∃ z, z = (T.setVm s.vm).setFrames (.invoking m args :: below) := ⟨_, rfl⟩
  rw [← hA] at Y
  have hvm : s'.vm = s.vm := by rw [hA]; rfl
  have hhp : s'.heap = H := by rw [hA]; exact hT
  have hW0 : s.WarmedH s'.vm := by rw [hvm]; exact State.WarmedH.refl s
  have hat' : ∀ w ∈ vx_atS own ic cls names, w.before args s' = true := fun w hw => vx_ot_at hW0 hvm.symm (hgood w (List.mem_cons_of_mem _ (List.mem_cons_of_mem _ hw))) (hat w hw)
  have hk' : (Cond.classLink own ik cls).before args s' = true := vx_ot_at hW0 hvm.symm (hgood _ List.mem_cons_self) hk
  have hini' : (Cond.initialized cls).before args s' = true := vx_ot_at hW0 hvm.symm (hgood _ (List.mem_cons_of_mem _ List.mem_cons_self)) hini
  have hU' : vx_Zq Bundle.tN "UNASSIGNED_STACK" Bundle.steD A s' s'.heap := by rw [hhp]; exact vx_Zq.moved hW0.alike (hU.kept hS.2.1)
  have hN' : vx_Zq Bundle.tN "SUPPRESSED_SENTINEL" Bundle.listD A s' s'.heap := by rw [hhp]; exact vx_Zq.moved hW0.alike (hN.kept hS.2.1)
  have h : ∀ w ∈ Bundle.ownAtoms own ic cls names, w.before args s' = true := vx_own hat' (vx_isRefq hU'.1) (vx_isRefq hN'.1) hU'.2.word hN'.2.word
  have hown' : s'.vm.findClass own = some m.cls := by rw [hvm]; exact hown
  have hins : (Cond.instantiable cls 6).before args s' = true := h _ (by simp [Bundle.ownAtoms])
  obtain ⟨vm₁, cX, kX, hfX, hkX, -, -, X₁, st1⟩ := Y.newCold hexec (own := own) (C := cls) (index := ik) (n := 6) hown' hk' hins hini'
    (g := F0 m pc ls rest) rfl (by rw [hb]; exact d0) (Nat.le_refl _) (Nat.le_refl _)
  generalize hT1 : (T.setVm vm₁).pushCell { cls := cX, slots := kX.instanceTypes.map defaultValue, vm := .none } = T1 at X₁ st1
  have hcat : (Value.ref T.heap.size).category = 1 := rfl
  have hcellA : T1.heap[T.heap.size]? = some (freshCell cX kX) := by rw [← hT1]; exact State.heap_pushCell_size _ _
  have d3' : decode c.code (pc + 3) = .ok (.dup, 1) := by rw [hb]; exact d3
  have d4' : decode c.code (pc + 4) = .ok (.ldc is, 2) := by rw [hb]; exact d4
  have hstr' : vk_R own is text sa s' := vk_R.warm hW0 hstr
  obtain ⟨U, hsteps, hrun, hend, hW, hsame, ce, hce, hO⟩ := X₁.ctorThrowS hexec htr (own := own) (cls := cls) (names := names) (ic := ic) hown' hcls hnames h (fun x hx => nomatch hx) hfX hkX hcellA (by rw [hhp, hT]; exact Nat.le_refl _) (msg := .ref sa) rfl
    (g := { method := m, pc := pc + 6, locals := ls, stack := .ref sa :: .ref T.heap.size :: .ref T.heap.size :: rest, locked := none }) rfl hsize rfl rfl (rest := rest) rfl
    (by rw [hb]; exact d6) (by rw [hb]; exact d9) hout hRframes (by simp only [List.map_cons, List.sum_cons, hcat]; omega) hlocks
  obtain ⟨f1, f2⟩ := vx_frame hsame
  rw [hhp] at f1 f2
  have hWs : s.WarmedH U.vm := State.WarmedH.trans hW0 hW
  have hcl : s.vm.findClass cls = some ce.cls := by
    have h9 := hO.cls
    rw [hvm] at h9
    exact h9
  have hall : s.sameButNew ({ U with vm := s.vm } : State) locs mc ms := by
    subst hA
    obtain ⟨e1, e2⟩ := hsame
    rw [State.setFrames_setFrames] at e1
    have h2 : (T.setVm s.vm).sameButNew ({ U with vm := s.vm } : State) [] (0 + 1) (0 + 6) := ⟨e1, e2⟩
    have h3 := X.same.trans h2
    rw [List.append_nil] at h3
    exact h3.mono hc hs
  refine ⟨U, ?_, .threw T.heap.size, hrun, hend, Or.inr ⟨T.heap.size, rfl, cls, ce, locs, hx U hWs.alike f1 (fun q hq => f2 q hq (fun z hz => nomatch hz)), hce, hO.vm, hcl, hWs, hall, hf⟩⟩
  refine st1 _ ?_
  show Steps p.tables e below (T1.setTop { method := m, pc := pc + 3, locals := ls, stack := .ref T.heap.size :: rest, locked := none }) _
  jvm_step X₁.here [X₁.here.top, hexec, d3', Value.category]
  exact X₁.ldcString hexec (own := own) (text := text) (index := is) (a := sa) hown' hstr'.1 hstr'.2
    (g := { method := m, pc := pc + 4, locals := ls, stack := .ref T.heap.size :: .ref T.heap.size :: rest, locked := none }) rfl d4' _ hsteps
/-- 'throw new E("text")', the text by a wide index -/
theorem vx_throwSW {cc : ByteArray} {pc : Nat} (hexec : p.tables.exec = Jvm.exec) (hb : c.code = cc) (hl : l.stackTraces = false) {own cls text : String} {names : List String} {ik is ic mc ms sa : Nat} {A : Nat → Prop}
    (hown : s.vm.findClass own = some m.cls) (hcls : Bundle.fit cls = true) (hnames : ∀ n ∈ names, Bundle.fit n = true)
    (hk : (Cond.classLink own ik cls).before args s = true) (hini : (Cond.initialized cls).before args s = true) (hstr : vk_R own is text sa s) (hat : ∀ w ∈ vx_atS own ic cls names, w.before args s = true)
    (hgood : ∀ w ∈ Cond.classLink own ik cls :: Cond.initialized cls :: vx_atS own ic cls names, vx_ot w = true)
    (hU : vx_Zq Bundle.tN "UNASSIGNED_STACK" Bundle.steD A s s.heap) (hN : vx_Zq Bundle.tN "SUPPRESSED_SENTINEL" Bundle.listD A s s.heap) (hS : va_S A s.heap H locs) (hsize : ls.size = c.maxLocals)
    (d0 : decode cc pc = .ok (.new ik, 3)) (d3 : decode cc (pc + 3) = .ok (.dup, 1)) (d4 : decode cc (pc + 4) = .ok (.ldc_w is, 3)) (d7 : decode cc (pc + 7) = .ok (.invokespecial ic, 3)) (d10 : decode cc (pc + 10) = .ok (.athrow, 1))
    (hout : ∀ x ∈ c.exceptionTable.toList, covers x (pc + 10) = false)
    (hRframes : names.length + 3 < R.frames) (hRlocals : (rest.map fun v => v.category).sum + (13 * (names.length + 1) + 43) ≤ R.locals) (hRcells : cells + 1 ≤ R.cells) (hRslots : slots + 6 ≤ R.slots) (hlocks : meth.locks = false)
    (hx : ∀ t : State, s.vm.Alike t.vm → H.size ≤ t.heap.size → (∀ q : Nat, q < H.size → t.heap[q]? = H[q]?) → XC cls s t)
    (hf : ∀ z ∈ locs, free z.base) (hc : cells + 1 ≤ mc) (hs : slots + 6 ≤ ms) :
    W p l e R s m args below meth c H locs cells slots (vx_MQ below Qc XC args s mc ms free) (F0 m pc ls rest) := by
  intro T hT X
  have htr : e.platform.stackTraces = false := (show e.platform.stackTraces = l.stackTraces by rw [X.admits.platform]).trans hl
  have Y := vx_rebase X (R' := { frames := R.frames, locals := R.locals, cells := 1, slots := 6 }) (Nat.le_refl _) (Nat.le_refl _) hRcells hRslots
  obtain ⟨s', hA⟩ : ∃ z, z = (T.setVm s.vm).setFrames (.invoking m args :: below) := ⟨_, rfl⟩
  rw [← hA] at Y
  have hvm : s'.vm = s.vm := by rw [hA]; rfl
  have hhp : s'.heap = H := by rw [hA]; exact hT
  have hW0 : s.WarmedH s'.vm := by rw [hvm]; exact State.WarmedH.refl s
  have hat' : ∀ w ∈ vx_atS own ic cls names, w.before args s' = true := fun w hw => vx_ot_at hW0 hvm.symm (hgood w (List.mem_cons_of_mem _ (List.mem_cons_of_mem _ hw))) (hat w hw)
  have hk' : (Cond.classLink own ik cls).before args s' = true := vx_ot_at hW0 hvm.symm (hgood _ List.mem_cons_self) hk
  have hini' : (Cond.initialized cls).before args s' = true := vx_ot_at hW0 hvm.symm (hgood _ (List.mem_cons_of_mem _ List.mem_cons_self)) hini
  have hU' : vx_Zq Bundle.tN "UNASSIGNED_STACK" Bundle.steD A s' s'.heap := by rw [hhp]; exact vx_Zq.moved hW0.alike (hU.kept hS.2.1)
  have hN' : vx_Zq Bundle.tN "SUPPRESSED_SENTINEL" Bundle.listD A s' s'.heap := by rw [hhp]; exact vx_Zq.moved hW0.alike (hN.kept hS.2.1)
  have h : ∀ w ∈ Bundle.ownAtoms own ic cls names, w.before args s' = true := vx_own hat' (vx_isRefq hU'.1) (vx_isRefq hN'.1) hU'.2.word hN'.2.word
  have hown' : s'.vm.findClass own = some m.cls := by rw [hvm]; exact hown
  have hins : (Cond.instantiable cls 6).before args s' = true := h _ (by simp [Bundle.ownAtoms])
  obtain ⟨vm₁, cX, kX, hfX, hkX, -, -, X₁, st1⟩ := Y.newCold hexec (own := own) (C := cls) (index := ik) (n := 6) hown' hk' hins hini'
    (g := F0 m pc ls rest) rfl (by rw [hb]; exact d0) (Nat.le_refl _) (Nat.le_refl _)
  generalize hT1 : (T.setVm vm₁).pushCell { cls := cX, slots := kX.instanceTypes.map defaultValue, vm := .none } = T1 at X₁ st1
  have hcat : (Value.ref T.heap.size).category = 1 := rfl
  have hcellA : T1.heap[T.heap.size]? = some (freshCell cX kX) := by rw [← hT1]; exact State.heap_pushCell_size _ _
  have d3' : decode c.code (pc + 3) = .ok (.dup, 1) := by rw [hb]; exact d3
  have d4' : decode c.code (pc + 4) = .ok (.ldc_w is, 3) := by rw [hb]; exact d4
  have hstr' : vk_R own is text sa s' := vk_R.warm hW0 hstr
  obtain ⟨U, hsteps, hrun, hend, hW, hsame, ce, hce, hO⟩ := X₁.ctorThrowS hexec htr (own := own) (cls := cls) (names := names) (ic := ic) hown' hcls hnames h (fun x hx => nomatch hx) hfX hkX hcellA (by rw [hhp, hT]; exact Nat.le_refl _) (msg := .ref sa) rfl
    (g := { method := m, pc := pc + 7, locals := ls, stack := .ref sa :: .ref T.heap.size :: .ref T.heap.size :: rest, locked := none }) rfl hsize rfl rfl (rest := rest) rfl
    (by rw [hb]; exact d7) (by rw [hb]; exact d10) hout hRframes (by simp only [List.map_cons, List.sum_cons, hcat]; omega) hlocks
  obtain ⟨f1, f2⟩ := vx_frame hsame
  rw [hhp] at f1 f2
  have hWs : s.WarmedH U.vm := State.WarmedH.trans hW0 hW
  have hcl : s.vm.findClass cls = some ce.cls := by
    have h9 := hO.cls
    rw [hvm] at h9
    exact h9
  have hall : s.sameButNew ({ U with vm := s.vm } : State) locs mc ms := by
    subst hA
    obtain ⟨e1, e2⟩ := hsame
    rw [State.setFrames_setFrames] at e1
    have h2 : (T.setVm s.vm).sameButNew ({ U with vm := s.vm } : State) [] (0 + 1) (0 + 6) := ⟨e1, e2⟩
    have h3 := X.same.trans h2
    rw [List.append_nil] at h3
    exact h3.mono hc hs
  refine ⟨U, ?_, .threw T.heap.size, hrun, hend, Or.inr ⟨T.heap.size, rfl, cls, ce, locs, hx U hWs.alike f1 (fun q hq => f2 q hq (fun z hz => nomatch hz)), hce, hO.vm, hcl, hWs, hall, hf⟩⟩
  refine st1 _ ?_
  show Steps p.tables e below (T1.setTop { method := m, pc := pc + 3, locals := ls, stack := .ref T.heap.size :: rest, locked := none }) _
  jvm_step X₁.here [X₁.here.top, hexec, d3', Value.category]
  exact X₁.ldcStringW hexec (own := own) (text := text) (index := is) (a := sa) hown' hstr'.1 hstr'.2
    (g := { method := m, pc := pc + 4, locals := ls, stack := .ref T.heap.size :: .ref T.heap.size :: rest, locked := none }) rfl d4' _ hsteps
end Ends
section Bodies
variable {l : Launch}
theorem vx_ofW {y : MethodName} {ws ws' : List Cond} {rm : Room} {Pc : Array Value → State → Prop} {Qc : Array Value → State → Outcome → State → Prop} {XC : String → State → State → Prop} {mc ms : Nat} {free : Addr → Prop} {cc : ByteArray} {maxL : Nat} {ret : Option FieldType}
    (hy : plainName y.cls = true) (hw : ws = Cond.code y cc maxL ret :: ws')
    (body : ∀ p e s m args below meth c s₁, BodyLoose p l y (headSpec ws rm) cc maxL ret e s m args below meth c s₁ → c.maxLocals = maxL → (∀ x ∈ c.exceptionTable.toList, False) → Pc args s →
      W p l e (headSpec ws rm).room s m args below meth c s.heap [] 0 0 (vx_MQ below Qc XC args s mc ms free) (entryFrame m args maxL)) : vx_Met l y ws rm Pc Qc XC mc ms free := by
  refine MetFree.of_bodyS (code := cc) (maxLocals := maxL) (ret := ret) hy ?_ ?_
  · intro args s m h hn
    obtain ⟨meth, c, h1, h2, h3, h4, h5, h6, -, -⟩ := Cond.code_spec hn (atoms_spec (ws := ws) h _ (by rw [hw]; exact List.mem_cons_self))
    exact ⟨meth, c, h1, h2, h3, h4, h5, h6⟩
  · intro p e s m args below meth c s₁ B hml hP _
    have hh0 : s₁.heap = s.heap := by rw [B.state]; rfl
    have ht : ∀ x ∈ c.exceptionTable.toList, False := by
      obtain ⟨meth9, c9, h1, h2, -, -, -, -, h7, -⟩ := Cond.code_spec B.named (atoms_spec (ws := ws) B.pre _ (by rw [hw]; exact List.mem_cons_self))
      cases Option.some.inj (h1.symm.trans B.method)
      cases Option.some.inj (h2.symm.trans (Stand.of_body B).code)
      intro x hx
      rw [Array.isEmpty_iff.mp h7] at hx
      cases hx
    obtain ⟨t, a1, o, b1, b2, b3⟩ := body p e s m args below meth c s₁ B hml ht hP s₁ hh0 (Stand.of_body B)
    exact ⟨t, o, a1, b1, b2, b3⟩
/-- the table of a body with handlers -/
theorem vx_table {p : Program} {x y : MethodName} {S : Spec} {cc bytes : ByteArray} {maxL maxL' : Nat} {ret ret' : Option FieldType} {e : Env} {s s₁ : State} {m : MethodId} {args : Array Value} {below : List Frame} {meth : Method} {c : Code} {hh : List (Nat × Nat × Nat × Nat)}
    (B : BodyLoose p l y S cc maxL ret e s m args below meth c s₁) (h : (Cond.codeWith y bytes maxL' ret' hh).before args s = true) : c.exceptionTable.toList = tableOf hh := by
  obtain ⟨m9, meth9, c9, hn9, h1, h2, -, -, h6, -⟩ := Cond.codeWith_spec h
  cases Option.some.inj (hn9.symm.trans B.named)
  cases Option.some.inj (h1.symm.trans B.method)
  cases Option.some.inj (h2.symm.trans (Stand.of_body B).code)
  rw [← h6, table_eq]
end Bodies
end VXA
/-! ===== END ===== -/
/-! ===== BEGIN a static call of a method with an exception table ===== -/
section VXS
variable {p : Program} {l : Launch} {e : Env} {R : Room} {s : State} {m : MethodId} {args : Array Value} {below : List Frame} {meth : Method} {c : Code} {T : State} {H : Heap} {locs : List Loc} {cells slots : Nat}
abbrev vx_CSW (R : Room) (s : State) (args : Array Value) (own : String) (index : Nat) (y : MethodName) (bytes : ByteArray) (maxL : Nat) (ret : Option FieldType) (hh : List (Nat × Nat × Nat × Nat)) (ws : List Cond) (rm : Room) (mc ms n : Nat) : Prop :=
  (rm.cells = mc ∧ rm.slots = ms ∧ rm.frames + 1 ≤ R.frames ∧ 8 + (maxL + 11) + rm.locals ≤ R.locals ∧ (∀ w ∈ ws, ∀ (a' : Array Value) (U : State), s.WarmedH U.vm → w.before a' U = true) ∧ Cond.codeWith y bytes maxL ret hh ∈ ws) ∧
  (Cond.codeWith y bytes maxL ret hh).before args s = true ∧ (Cond.initialized y.cls).before args s = true ∧ (y.cls ≠ "java/lang/invoke/MethodHandle" ∧ y.cls ≠ "java/lang/invoke/VarHandle") ∧
  (∀ sig, parseMethodDescriptor y.desc = some sig → n = sig.parameters.length) ∧ (Cond.methodLink own index y).before args s = true ∧ (Cond.static y).before args s = true
theorem vx_cwSW {own : String} {index maxL mc ms : Nat} {y : MethodName} {bytes : ByteArray} {ret : Option FieldType} {hh : List (Nat × Nat × Nat × Nat)} {Ts ws ws' : List Cond} {rm : Room} (n : Nat) (ht : ∀ w ∈ Ts, w.before args s = true) (hT : GoodIn Ts (va_wsS own index y ws)) (hw : ws = Cond.codeWith y bytes maxL ret hh :: ws') (hrc : rm.cells = mc) (hrs : rm.slots = ms)
    (hd : y.cls ≠ "java/lang/invoke/MethodHandle" ∧ y.cls ≠ "java/lang/invoke/VarHandle" ∧ (parseMethodDescriptor y.desc).map (fun d => d.parameters.length) = some n) (hR : rm.frames + 1 ≤ R.frames ∧ 8 + (maxL + 11) + rm.locals ≤ R.locals) :
    vx_CSW R s args own index y bytes maxL ret hh ws rm mc ms n := by
  have ok : ∀ w ∈ va_wsS own index y ws, w.before args s = true := fun w h => ht w (hT w h).1
  have hG : GoodIn Ts ws := fun w h => hT w (by unfold va_wsS; exact List.mem_append_right _ h)
  have hc : Cond.codeWith y bytes maxL ret hh ∈ ws := by rw [hw]; exact List.mem_cons_self
  refine ⟨⟨hrc, hrs, hR.1, hR.2, pay_in ht hG, hc⟩, ht _ (hG _ hc).1, ok _ (by simp [va_wsS]), ⟨hd.1, hd.2.1⟩, fun sig h => ?_, ok _ (by simp [va_wsS]), ok _ (by simp [va_wsS])⟩
  have h2 := hd.2.2
  rw [h] at h2
  exact (Option.some.inj h2).symm
theorem vx_callSW (X : Stand p l e R s m args below meth c T locs cells slots) (hexec : p.tables.exec = Jvm.exec) {own : String} {index : Nat} {y : MethodName} {bytes : ByteArray} {maxL : Nat} {ret : Option FieldType} {hh : List (Nat × Nat × Nat × Nat)}
    (hown : s.vm.findClass own = some m.cls) (hlink : (Cond.methodLink own index y).before args s = true) (hstat : (Cond.static y).before args s = true) (hinit : (Cond.initialized y.cls).before args s = true)
    (hcode : (Cond.codeWith y bytes maxL ret hh).before args s = true) (hy : y.cls ≠ "java/lang/invoke/MethodHandle" ∧ y.cls ≠ "java/lang/invoke/VarHandle")
    {W9 : Nat} {Pre : Pt → Array Value → Prop} {Post : Pt → Array Value → Option Value → Pt → Prop} (hK : Back l R p e below s args y 3 W9 Pre Post)
    {g : JFrame} (hg : g.method = m) (hsize : g.locals.size = c.maxLocals) {argsL rest : List Value} (hlen : ∀ sig, parseMethodDescriptor y.desc = some sig → argsL.length = sig.parameters.length)
    (hstack : g.stack = argsL.reverse ++ rest) (hW : 2 * g.monitorRoom + (rest.map fun v => v.category).sum ≤ W9) (hdg : decode c.code g.pc = .ok (.invokestatic index, 3))
    (hpre : ∀ vm₁, s.WarmedH vm₁ → Pre ⟨T.setVm vm₁, locs, cells, slots⟩ argsL.toArray) :
    ∃ (v : Option Value) (vm₁ : Vm) (B : Pt), s.WarmedH vm₁ ∧ Stand p l e R s m args below meth c B.U B.locs B.cells B.slots ∧ Post ⟨T.setVm vm₁, locs, cells, slots⟩ argsL.toArray v B ∧
      ∀ target, Steps p.tables e below (B.U.setTop { g with pc := g.pc + 3, stack := v.toList ++ rest }) target → Steps p.tables e below (T.setTop g) target := by
  obtain ⟨mk, methM, cM, hnamed, hmethM, -, -, -, -, -, -, hsigM⟩ := Cond.codeWith_spec hcode
  have hstatic : methM.isStatic = true := Cond.static_spec hnamed hmethM hstat
  obtain ⟨kP, hkP, -⟩ := className_of_methodNamed hnamed
  have hinitP : kP.init = .initialized := Cond.initialized_spec (findClass_of_methodNamed hnamed) hkP hinit
  obtain ⟨vm₁, X₁, hstep₁⟩ := X.invokestatic hexec hown hlink hnamed hmethM hstatic hkP hinitP hy (g := g) hg (argsL := argsL) (rest := rest) (hlen _ hsigM) hstack hdg
  obtain ⟨v, B, X', hpost, hsteps⟩ := hK m meth c ⟨T.setVm vm₁, locs, cells, slots⟩ { g with stack := rest } (.invokestatic index) mk argsL.toArray X₁ hg hsize hdg hW (X₁.named hnamed) (hpre vm₁ X₁.warmed)
  exact ⟨v, vm₁, B, X₁.warmed, X', hpost, fun target h => hstep₁ _ fun acts => by rw [doInvoke_state]; exact hsteps.trans h⟩
theorem vx_runSW {y : MethodName} {bytes cc : ByteArray} {maxL nL mc ms n index : Nat} {ret : Option FieldType} {hh : List (Nat × Nat × Nat × Nat)} {ws : List Cond} {rm : Room} {Pc : Array Value → State → Prop} {Qc : Array Value → State → Outcome → State → Prop} {free : Addr → Prop} {Ts : List Cond} {own : String} {As rest : List Value} {g : JFrame}
    (S : CallFix p m c cc nL s args Ts own) (hM : Met l y ws rm Pc Qc mc ms free) (cw : vx_CSW R s args own index y bytes maxL ret hh ws rm mc ms n) (hp : PreS s H Pc As)
    (hg : g.method = m) (hn : As.length = n) (hsize : g.locals.size = nL) (hstack : g.stack = As.reverse ++ rest) (hW : 2 * g.monitorRoom + (rest.map fun v => v.category).sum ≤ 8) (hdg : decode cc g.pc = .ok (.invokestatic index, 3)) (hf : cells + mc ≤ R.cells ∧ slots + ms ≤ R.slots) :
    va_Run p l e R s m args below meth c H locs cells slots mc ms g rest (Qc As.toArray) (free) := by
  obtain ⟨⟨hrc, hrs, hfr, hlo, hws, hcw⟩, hcode, hini, hy, hlen, hl, hstt⟩ := cw
  have hK : Back l R p e below s args y 3 8 (PreOf R mc ms Pc) (PostOf Qc mc ms free) := va_backW (hh := hh) (bytes := bytes) (maxL := maxL) (ret := ret) hM hp.1 hrc hrs hfr hlo hws hcw (fun a' U hW => word_at hW (Or.inl (by first | rfl | simp [Cond.onTables, Cond.keeps, Cond.steady])) hini)
  obtain ⟨hx, hb, hml, ho, -⟩ := S
  intro T hT X
  obtain ⟨v, vm₁, ⟨U', l2, c2, s2⟩, hW₁, X', ⟨g', mk, t, L, e1, e2, hq, h1, hL, h2, h3⟩, st⟩ := vx_callSW X hx (hh := hh) (bytes := bytes) (maxL := maxL) (ret := ret) ho hl hstt hini hcode hy hK hg (hsize.trans hml.symm) (argsL := As) (rest := rest) (fun sig h => hn.trans (hlen sig h)) hstack hW (by rw [hb]; exact hdg)
    (fun vm₁ hW₁ => ⟨hf.1, hf.2, hp.2 (T.setVm vm₁) hT hW₁⟩)
  dsimp only [Pt.U, Pt.locs, Pt.cells, Pt.slots] at X' e1 e2 h1 h2 h3 st
  subst h1; subst h2; subst h3
  exact ⟨v, (T.setVm vm₁).calling g' mk As.toArray, t, U', L, hT, X', hL, e1, e2, hq, st⟩
/-- not caught here, past rows that name other classes: it goes on to the caller -/
theorem vx_outP {p : Program} {l : Launch} {e : Env} {R : Room} {s : State} {m : MethodId} {args : Array Value} {below : List Frame} {meth : Method} {c : Code} {H : Heap} {locs : List Loc} {cells slots : Nat} {free : Addr → Prop} {ls : Array Slot} {rest : List Value} {Qc : Array Value → State → Outcome → State → Prop} {XC : String → State → State → Prop}
    {pc : Nat} {own E : String} {ce : Cell} {q : Addr} {mc ms : Nat} (hown : s.vm.findClass own = some m.cls) (hlocks : meth.locks = false)
    (hpass : ∀ z ∈ c.exceptionTable.toList, covers z pc = false ∨ (z.catchType ≠ 0 ∧ ∃ nm : String, (Cond.classLink own z.catchType nm).before args s = true ∧ va_Nc E nm s)) (hcell : H[q]? = some ce) (hv : ce.vm = .none) (hcl : s.vm.findClass E = some ce.cls)
    (hx : ∀ t : State, t.heap = H → s.vm.Alike t.vm → XC E s t) (hf : ∀ z ∈ locs, free z.base) (hc : cells ≤ mc) (hs : slots ≤ ms) :
    vx_W p l e R s m args below meth c H locs cells slots (vx_MQ below Qc XC args s mc ms free) (F0 m pc ls rest) q := by
  intro T hT X
  have hpl : e.platform.magicAccessors = ({} : Platform).magicAccessors := by rw [X.admits.platform]
  obtain ⟨vm', hW', X', st⟩ := X.outThrough hlocks q (g := F0 m pc ls rest) rfl rfl rfl (cell := ce) (by rw [hT]; exact hcell) (by rw [hv]; rfl)
    (by obtain ⟨k9, h9, -⟩ := Vm.findClass_spec hcl; exact ⟨k9, h9⟩) (fun z hz => by
      rcases hpass z hz with h | ⟨hz0, nm, hl1, hn1⟩
      · exact Or.inl h
      · obtain ⟨c6, hc6, hcl6⟩ := Cond.classLink_spec hown hl1 e.platform hpl
        obtain ⟨a8, b8, h1, h2, h3⟩ := hn1
        cases Option.some.inj (h1.symm.trans hcl)
        cases Option.some.inj (h2.symm.trans hc6)
        exact Or.inr ⟨hz0, _, hcl6, h3⟩)
  obtain ⟨g₀, hfr⟩ := X'.frames_eq
  have hcell9 : ((T.setVm vm').setFrames (.throwing q :: below)).heap[q]? = some ce := by
    show T.heap[q]? = some ce
    rw [hT]; exact hcell
  have hend : Ended ((T.setVm vm').setFrames (.throwing q :: below)) below (.threw q) := State.frames_setFrames _ (State.cur_lt_of_frames hfr)
  refine ⟨(T.setVm vm').setFrames (.throwing q :: below), ?_, .threw q, X'.here.running, hend, Or.inr ⟨q, rfl, E, ce, locs, hx _ hT (X'.ends _).1.alike, hcell9, hv, hcl, (X'.ends _).1, (X'.ends _).2.mono hc hs, hf⟩⟩
  rw [X.pushThrowing_eq]
  exact st
/-- a thing of a world lies in the heap -/
theorem vx_lt {D : va_G} {cl : List vw_C} {ws : va_W} {H1 : Heap} (h : va_P D cl ws H1) {k : Nat} {q : Nat × va_E} (hk : ws[k]? = some q) : q.1 < H1.size := (h k q hk).lt
end VXS
/-! ===== END ===== -/
end
section
/-! zx: a throw of a class whose constructor passes its text on by another entry than the seventh (the printed rows of a throw know the seventh alone): after the printed rows' way -/
def zx_b13 : ByteArray := ⟨#[0x2a, 0x2b, 0xb7, 0x00, 0x0d, 0xb1]⟩
/-- the class's own words -/
def zx_own (own : String) (ic : Nat) (X : String) : List Jvm.Cond :=
  [.methodLink own ic (Bundle.initS X), .instantiable X 6, .castable X X, .selects X Bundle.tFill0 Bundle.tFill0, .selects X Bundle.tFill Bundle.tFill, .lays X Bundle.tN "cause" "Ljava/lang/Throwable;", .lays X Bundle.tN "stackTrace" Bundle.steD, .lays X Bundle.tN "suppressedExceptions" Bundle.listD, .lays X Bundle.tN "detailMessage" "Ljava/lang/String;", .isRef (.static Bundle.tN "UNASSIGNED_STACK" Bundle.steD), .isRef (.static Bundle.tN "SUPPRESSED_SENTINEL" Bundle.listD), .fieldLink Bundle.tN 198 Bundle.tN "backtrace" "Ljava/lang/Object;", .lays Bundle.tN Bundle.tN "backtrace" "Ljava/lang/Object;", .lays X Bundle.tN "backtrace" "Ljava/lang/Object;"]
def zx_thr (own : String) (ic : Nat) (X Y : String) (names : List String) : List Jvm.Cond :=
  Bundle.throwableAtoms ++ (Bundle.throwableSAtoms ++ ((Bundle.passSAtoms X Y 13 zx_b13 ++ Bundle.chainSAtoms Y names) ++ zx_own own ic X))
section ZXT
variable {p : Program} {l : Launch} {e : Env} {R : Room} {s : State} {m : MethodId} {args : Array Value} {below : List Frame} {meth : Method} {c : Code} {V : State} {locs : List Loc} {cells slots : Nat}
set_option maxHeartbeats 1000000 in
theorem zx_ctor (X : Stand p l e R s m args below meth c V locs cells slots) (hexec : p.tables.exec = Jvm.exec) (htr : e.platform.stackTraces = false) {own cls Y : String} {names : List String} {ic : Nat}
    (hown : s.vm.findClass own = some m.cls) (hcls : Bundle.fit cls = true) (hY : Bundle.fit Y = true) (hnames : ∀ n ∈ names, Bundle.fit n = true) (h : ∀ w ∈ zx_thr own ic cls Y names, w.before args s = true)
    (hlocs : ∀ x ∈ locs, ∀ cell, s.heap[x.base]? = some cell → cell.vm.isStatics = false)
    {a : Addr} {cX : ClassId} {kX : Class} (hfX : s.vm.findClass cls = some cX) (hkX : s.vm.classes[cX]? = some kX) (hcell : V.heap[a]? = some (freshCell cX kX)) (hnew : s.heap.size ≤ a) {msg : Value} (hmsg : msg.isRef = true)
    {g : JFrame} (hg : g.method = m) (hsize : g.locals.size = c.maxLocals) (hlocked : g.locked = none) (hentered : g.entered = []) {rest : List Value} (hstack : g.stack = msg :: .ref a :: .ref a :: rest)
    (d6 : decode c.code g.pc = .ok (.invokespecial ic, 3)) (d9 : decode c.code (g.pc + 3) = .ok (.athrow, 1)) (hout : ∀ x ∈ c.exceptionTable.toList, covers x (g.pc + 3) = false)
    (hRf : names.length + 4 < R.frames) (hRl : 2 * g.monitorRoom + ((Value.ref a :: rest).map fun v => v.category).sum + (13 * (names.length + 2) + 42) ≤ R.locals) (hlocks : meth.locks = false) :
    ∃ U : State, Steps p.tables e below (V.setTop g) U ∧ U.status = .running ∧ Ended U below (.threw a) ∧ s.WarmedH U.vm ∧ s.sameButNew ({ U with vm := s.vm } : State) locs cells slots ∧ ∃ ce, U.heap[a]? = some ce ∧ ce.vm = .none ∧ s.vm.findClass cls = some ce.cls := by
  have howns : e.platform.frameOwnsMonitors = true := by rw [X.admits.platform]
  have hfin : e.platform.finalization = false := by rw [X.admits.platform]
  have hpl : e.platform.magicAccessors = ({} : Platform).magicAccessors := by rw [X.admits.platform]
  have i1 : ∀ w ∈ Bundle.throwableAtoms, w.before args s = true := fun w hw => h w (List.mem_append_left _ hw)
  have i2 : ∀ w ∈ Bundle.throwableSAtoms, w.before args s = true := fun w hw => h w (List.mem_append_right _ (List.mem_append_left _ hw))
  have i3 : ∀ w ∈ Bundle.passSAtoms cls Y 13 zx_b13, w.before args s = true := fun w hw => h w (List.mem_append_right _ (List.mem_append_right _ (List.mem_append_left _ (List.mem_append_left _ hw))))
  have i4 : ∀ w ∈ Bundle.chainSAtoms Y names, w.before args s = true := fun w hw => h w (List.mem_append_right _ (List.mem_append_right _ (List.mem_append_left _ (List.mem_append_right _ hw))))
  have i5 : ∀ w ∈ zx_own own ic cls, w.before args s = true := fun w hw => h w (List.mem_append_right _ (List.mem_append_right _ (List.mem_append_right _ hw)))
  obtain ⟨T, Z0, L, -, K⟩ := ThrowableC.of_atoms (args := args) howns hfin hpl i1
  obtain ⟨Z, M, LZ, LM, hnZ⟩ := Init0T.ofS_atoms (args := args) hpl L K i2
  obtain ⟨P2, Ps, hlen, L2, hLs, hm2, hs2, hpass⟩ := Bundle.chainS (args := args) hpl hnZ names Y hY hnames i4
  obtain ⟨P1, L1, hm1, hs1⟩ := PassC.ofS_atoms (args := args) (s := s) hpl (X := cls) (Y := Y) (Bundle.fit_spec hcls).1 (Bundle.fit_spec hY).2 (index := 13) (bytes := zx_b13) (by decide +kernel) (by decide +kernel) (by decide +kernel) (by decide +kernel) i3
  have hsup : P1.sup = P2.m := Option.some.inj (hs1.symm.trans hm2)
  have hfound : s.vm.findClass cls = some P1.m.cls := findClass_of_methodNamed hm1
  cases Option.some.inj (hfX.symm.trans hfound)
  obtain ⟨c1, k1, hc1, hk, hord, -, -, hn6⟩ := Cond.instantiable_spec (i5 (.instantiable cls 6) (by simp [zx_own]))
  cases Option.some.inj (hc1.symm.trans hfound)
  cases Option.some.inj (hkX.symm.trans hk)
  have sel : ∀ (t : MethodName) (mt : MethodId), Cond.selects cls t t ∈ zx_own own ic cls → s.methodNamed? t = some mt → t.cls ≠ "java/lang/invoke/MethodHandle" ∧ t.cls ≠ "java/lang/invoke/VarHandle" → selectMethod e.platform s.vm P1.m.cls mt = .method mt := by
    intro t mt hw hn hne
    obtain ⟨c2, r2, m2, q1, q2, q3, q4, -⟩ := Cond.selects_spec (i5 _ hw)
    cases Option.some.inj (q1.symm.trans hfound)
    cases Option.some.inj (q2.symm.trans (State.methodFound?_of_named hn hne))
    cases Option.some.inj (q3.symm.trans hn)
    rw [Launch.admits_selectMethod X.admits]; exact q4
  have hsel0 := sel Bundle.tFill0 T.fill0 (by simp [zx_own]) K.fill0 (by decide)
  have hselF := sel Bundle.tFill T.fill (by simp [zx_own]) K.fill (by decide)
  obtain ⟨cS0, hcS0, hiss⟩ := K.statics
  obtain ⟨u0, hu0⟩ := Cond.staticRefV K.unassigned L.unassignedStatic L.statics hcS0 hiss (i5 (.isRef (.static Bundle.tN "UNASSIGNED_STACK" Bundle.steD)) (by simp [zx_own]))
  obtain ⟨sen, hsen⟩ := Cond.staticRefV K.sentinel L.sentinelStatic L.statics hcS0 hiss (i5 (.isRef (.static Bundle.tN "SUPPRESSED_SENTINEL" Bundle.listD)) (by simp [zx_own]))
  obtain ⟨ci9, i9, fB, hk9, hg9, ha9, hsB, -, hnB, htB, hffB⟩ := Cond.ownField (t := .object "java/lang/Object") K.found L.cls (by decide +kernel) (i5 (.fieldLink Bundle.tN 198 Bundle.tN "backtrace" "Ljava/lang/Object;") (by simp [zx_own])) (i5 (.lays Bundle.tN Bundle.tN "backtrace" "Ljava/lang/Object;") (by simp [zx_own])) e.platform hpl
  obtain ⟨cS, hcS, heS, -, hkeep⟩ := X.same.2.2.2.2.2 T.aS cS0 hcS0
  have hcellS : V.heap[T.aS]? = some cS := hcS
  have hfree : ∀ i, (⟨T.aS, i⟩ : Loc) ∉ locs := fun i hm => by
    have := hlocs _ hm cS0 hcS0
    rw [hiss] at this; cases this
  have hknown : cS.vm ≠ .unknown := by
    rw [heS]; intro hu
    rw [show cS0.vm = .unknown from hu] at hiss
    cases hiss
  have hneS : T.aS ≠ a := Nat.ne_of_lt (Nat.lt_of_lt_of_le (Array.getElem?_eq_some_iff.mp hcS0).1 hnew)
  obtain ⟨iM, hffM⟩ := K.msg
  obtain ⟨tyC, dC, hdC, hdnC⟩ := Cond.laysAt hfound hk K.cause (i5 (.lays cls Bundle.tN "cause" "Ljava/lang/Throwable;") (by simp [zx_own]))
  obtain ⟨tyS, dS, hdS, hdnS⟩ := Cond.laysAt hfound hk K.stack (i5 (.lays cls Bundle.tN "stackTrace" Bundle.steD) (by simp [zx_own]))
  obtain ⟨tyP, dP, hdP, hdnP⟩ := Cond.laysAt hfound hk K.supp (i5 (.lays cls Bundle.tN "suppressedExceptions" Bundle.listD) (by simp [zx_own]))
  obtain ⟨tyM, dM, hdM, hdnM⟩ := Cond.laysAt hfound hk hffM (i5 (.lays cls Bundle.tN "detailMessage" "Ljava/lang/String;") (by simp [zx_own]))
  obtain ⟨tyB, dB, hdB, hdnB⟩ := Cond.laysAt hfound hk hffB (i5 (.lays cls Bundle.tN "backtrace" "Ljava/lang/Object;") (by simp [zx_own]))
  have bC := Cond.laysApart hdB hdC hdnB hdnC (by rw [hnB, K.causeName]; decide)
  have bS := Cond.laysApart hdB hdS hdnB hdnS (by rw [hnB, K.stackName]; decide)
  have bP := Cond.laysApart hdB hdP hdnB hdnP (by rw [hnB, K.suppName]; decide)
  have hskip : SkipFacts T e.platform s (fun u => u) u0 ((preparedCellV T.toThrowableT (freshCell P1.m.cls kX) a u0 sen).withEntry V.cur) :=
    ⟨{ ci198 := ci9, i198 := i9, fBack := fB }, ⟨hk9, hg9, ha9, hsB⟩, by
      have := fresh_default (c := P1.m.cls) tyB
      rw [htB] at this
      simpa [preparedCellV, Cell.setSlot, Cell.withEntry, Array.getElem?_setIfInBounds, bC, bS, bP, bC.symm, bS.symm, bP.symm, defaultValue] using this, fun _ _ => rfl⟩
  obtain ⟨tm, mC, cdC, kC, vm₁, hnC, -, -, -, -, -, -, -, hW₁, st1⟩ := Steps.initColdS (tb := p.tables) (e := e) (below := below) (s := s) (U := V) X.here hexec X.warmed hpl hown (t := Bundle.initS cls) rfl rfl (Bundle.fit_spec hcls).2
    (i5 (.methodLink own ic (Bundle.initS cls)) (by simp [zx_own])) (i3 (.instanceMethod (Bundle.initS cls)) (by simp [Bundle.passSAtoms])) (bytes := zx_b13) (maxL := 2) (i3 (.code (Bundle.initS cls) zx_b13 2 none) (by simp [Bundle.passSAtoms])) (f := g) hg (a := a) (msg := msg) (rest := .ref a :: rest) hstack d6
  cases Option.some.inj (hnC.symm.trans hm1)
  have X₁ := X.noted hW₁
  obtain ⟨vm₂, X₂, st2⟩ := X₁.ctorMessageOffV hexec (g := { g with stack := .ref a :: rest }) hg hsize T L Z LZ M LM (P1 :: P2 :: Ps)
    (fun P hP => by
      rcases List.mem_cons.mp hP with rfl | hP
      · exact L1
      · rcases List.mem_cons.mp hP with rfl | hP
        · exact L2
        · exact hLs P hP) ⟨hsup, hs2, hpass⟩ (u0 := u0) (sen := sen) (self := a) hmsg (cell := freshCell P1.m.cls kX) (cellS := cS)
    hcell (fun _ => by simp) (by simp) rfl rfl hsel0 hselF hcellS hneS hknown (by rw [hkeep _ (hfree _)]; exact hu0) (by rw [hkeep _ (hfree _)]; exact hsen)
    (Takes.of_laid hk hord tyC (by rw [K.causeType]; rfl)) (Takes.of_laid hk hord tyS (by rw [K.stackType]; exact fits_refV_array _ u0)) (Takes.of_laid hk hord tyP (by rw [K.suppType]; exact fits_refV_object _ sen))
    (Takes.of_laid hk hord tyM (by rw [K.msgType]; exact fits_refV_object _ ⟨msg, hmsg⟩)) K.objLocals hskip htr [] d6
    (by simp only [List.length_cons, hlen]; omega) (by simp only [List.length_cons, hlen]; exact hRl)
  obtain ⟨hwalk, hrun, hended, hWU, hsame⟩ := X₂.athrowLeaves hexec (g := { g with stack := .ref a :: rest, pc := g.pc + 3 }) hg hlocked hentered hout (a := a) (rest := rest) rfl d9
  have hlt : a < ((V.setVm vm₁).setVm vm₂).heap.size := (Array.getElem?_eq_some_iff.mp hcell).1
  have hU := heapAt_setCell_self (s := (V.setVm vm₁).setVm vm₂) (plainBareV T.toThrowableT (freshCell P1.m.cls kX) a u0 sen msg) hlt
  refine ⟨_, st1 _ (fun acts => ?_), hrun, hended, hWU, hsame.weaken (fun y hy hlt' => ?_) (Nat.le_refl _) (Nat.le_refl _), _, hU, rfl, hfound⟩
  · rw [doInvoke_state]
    exact st2 _ hwalk
  · rcases List.mem_append.mp hy with h1 | h1
    · exact h1
    · exfalso
      have hb : y.base = a := by
        simp only [List.mem_cons, List.not_mem_nil, or_false] at h1
        rcases h1 with rfl | rfl | rfl | rfl | rfl <;> rfl
      rw [hb] at hlt'
      exact Nat.not_lt.mpr hnew hlt'
end ZXT
section ZXU
variable {p : Program} {l : Launch} {e : Env} {R : Room} {s : State} {m : MethodId} {args : Array Value} {below : List Frame} {meth : Method} {c : Code} {H : Heap} {locs : List Loc} {cells slots : Nat}
variable {free : Addr → Prop} {ls : Array Slot} {rest : List Value} {Qc : Array Value → State → Outcome → State → Prop} {XC : String → State → State → Prop}
/-- 'throw new E("text")': new; dup; ldc; invokespecial; athrow -/
theorem zx_throw {cc : ByteArray} {pc : Nat} (hexec : p.tables.exec = Jvm.exec) (hb : c.code = cc) (hl : l.stackTraces = false) {own cls Z text : String} {names : List String} {ik is ic mc ms sa : Nat} {A : Nat → Prop}
    (hown : s.vm.findClass own = some m.cls) (hcls : Bundle.fit cls = true) (hZ : Bundle.fit Z = true) (hnames : ∀ n ∈ names, Bundle.fit n = true)
    (hk : (Cond.classLink own ik cls).before args s = true) (hini : (Cond.initialized cls).before args s = true) (hstr : vk_R own is text sa s) (hat : ∀ w ∈ (zx_thr own ic cls Z names).filter vx_no, w.before args s = true)
    (hgood : ∀ w ∈ Cond.classLink own ik cls :: Cond.initialized cls :: (zx_thr own ic cls Z names).filter vx_no, vx_ot w = true)
    (hU : vx_Zq Bundle.tN "UNASSIGNED_STACK" Bundle.steD A s s.heap) (hN : vx_Zq Bundle.tN "SUPPRESSED_SENTINEL" Bundle.listD A s s.heap) (hS : va_S A s.heap H locs) (hsize : ls.size = c.maxLocals)
    (d0 : decode cc pc = .ok (.new ik, 3)) (d3 : decode cc (pc + 3) = .ok (.dup, 1)) (d4 : decode cc (pc + 4) = .ok (.ldc is, 2)) (d6 : decode cc (pc + 6) = .ok (.invokespecial ic, 3)) (d9 : decode cc (pc + 9) = .ok (.athrow, 1))
    (hout : ∀ x ∈ c.exceptionTable.toList, covers x (pc + 9) = false)
    (hRframes : names.length + 4 < R.frames) (hRlocals : (rest.map fun v => v.category).sum + (13 * (names.length + 2) + 43) ≤ R.locals) (hRcells : cells + 1 ≤ R.cells) (hRslots : slots + 6 ≤ R.slots) (hlocks : meth.locks = false)
    (hx : ∀ t : State, s.vm.Alike t.vm → H.size ≤ t.heap.size → (∀ q : Nat, q < H.size → t.heap[q]? = H[q]?) → XC cls s t)
    (hf : ∀ z ∈ locs, free z.base) (hc : cells + 1 ≤ mc) (hs : slots + 6 ≤ ms) :
    W p l e R s m args below meth c H locs cells slots (vx_MQ below Qc XC args s mc ms free) (F0 m pc ls rest) := by
  intro T hT X
  have htr : e.platform.stackTraces = false := (show e.platform.stackTraces = l.stackTraces by rw [X.admits.platform]).trans hl
  have Y := vx_rebase X (R' := { frames := R.frames, locals := R.locals, cells := 1, slots := 6 }) (Nat.le_refl _) (Nat.le_refl _) hRcells hRslots
  obtain ⟨s', hA⟩ : ∃ z, z = (T.setVm s.vm).setFrames (.invoking m args :: below) := ⟨_, rfl⟩
  rw [← hA] at Y
  have hvm : s'.vm = s.vm := by rw [hA]; rfl
  have hhp : s'.heap = H := by rw [hA]; exact hT
  have hW0 : s.WarmedH s'.vm := by rw [hvm]; exact State.WarmedH.refl s
  have hat' : ∀ w ∈ (zx_thr own ic cls Z names).filter vx_no, w.before args s' = true := fun w hw => vx_ot_at hW0 hvm.symm (hgood w (List.mem_cons_of_mem _ (List.mem_cons_of_mem _ hw))) (hat w hw)
  have hk' : (Cond.classLink own ik cls).before args s' = true := vx_ot_at hW0 hvm.symm (hgood _ List.mem_cons_self) hk
  have hini' : (Cond.initialized cls).before args s' = true := vx_ot_at hW0 hvm.symm (hgood _ (List.mem_cons_of_mem _ List.mem_cons_self)) hini
  have hU' : vx_Zq Bundle.tN "UNASSIGNED_STACK" Bundle.steD A s' s'.heap := by rw [hhp]; exact vx_Zq.moved hW0.alike (hU.kept hS.2.1)
  have hN' : vx_Zq Bundle.tN "SUPPRESSED_SENTINEL" Bundle.listD A s' s'.heap := by rw [hhp]; exact vx_Zq.moved hW0.alike (hN.kept hS.2.1)
  have h : ∀ w ∈ zx_thr own ic cls Z names, w.before args s' = true := vx_own hat' (vx_isRefq hU'.1) (vx_isRefq hN'.1) hU'.2.word hN'.2.word
  have hown' : s'.vm.findClass own = some m.cls := by rw [hvm]; exact hown
  have hins : (Cond.instantiable cls 6).before args s' = true := h _ (by simp [zx_thr, zx_own])
  obtain ⟨vm₁, cX, kX, hfX, hkX, -, -, X₁, st1⟩ := Y.newCold hexec (own := own) (C := cls) (index := ik) (n := 6) hown' hk' hins hini'
    (g := F0 m pc ls rest) rfl (by rw [hb]; exact d0) (Nat.le_refl _) (Nat.le_refl _)
  generalize hT1 : (T.setVm vm₁).pushCell { cls := cX, slots := kX.instanceTypes.map defaultValue, vm := .none } = T1 at X₁ st1
  have hcat : (Value.ref T.heap.size).category = 1 := rfl
  have hcellA : T1.heap[T.heap.size]? = some (freshCell cX kX) := by rw [← hT1]; exact State.heap_pushCell_size _ _
  have d3' : decode c.code (pc + 3) = .ok (.dup, 1) := by rw [hb]; exact d3
  have d4' : decode c.code (pc + 4) = .ok (.ldc is, 2) := by rw [hb]; exact d4
  have hstr' : vk_R own is text sa s' := vk_R.warm hW0 hstr
  obtain ⟨U, hsteps, hrun, hend, hW, hsame, ce, hce, hOv, hOc⟩ := zx_ctor X₁ hexec htr (own := own) (cls := cls) (Y := Z) (names := names) (ic := ic) hown' hcls hZ hnames h (fun x hx => nomatch hx) hfX hkX hcellA (by rw [hhp, hT]; exact Nat.le_refl _) (msg := .ref sa) rfl
    (g := { method := m, pc := pc + 6, locals := ls, stack := .ref sa :: .ref T.heap.size :: .ref T.heap.size :: rest, locked := none }) rfl hsize rfl rfl (rest := rest) rfl
    (by rw [hb]; exact d6) (by rw [hb]; exact d9) hout hRframes (by simp only [List.map_cons, List.sum_cons, hcat]; omega) hlocks
  obtain ⟨f1, f2⟩ := vx_frame hsame
  rw [hhp] at f1 f2
  have hWs : s.WarmedH U.vm := State.WarmedH.trans hW0 hW
  have hcl : s.vm.findClass cls = some ce.cls := by
    have h9 := hOc
    rw [hvm] at h9
    exact h9
  have hall : s.sameButNew ({ U with vm := s.vm } : State) locs mc ms := by
    subst hA
    obtain ⟨e1, e2⟩ := hsame
    rw [State.setFrames_setFrames] at e1
    have h2 : (T.setVm s.vm).sameButNew ({ U with vm := s.vm } : State) [] (0 + 1) (0 + 6) := ⟨e1, e2⟩
    have h3 := X.same.trans h2
    rw [List.append_nil] at h3
    exact h3.mono hc hs
  refine ⟨U, ?_, .threw T.heap.size, hrun, hend, Or.inr ⟨T.heap.size, rfl, cls, ce, locs, hx U hWs.alike f1 (fun q hq => f2 q hq (fun z hz => nomatch hz)), hce, hOv, hcl, hWs, hall, hf⟩⟩
  refine st1 _ ?_
  show Steps p.tables e below (T1.setTop { method := m, pc := pc + 3, locals := ls, stack := .ref T.heap.size :: rest, locked := none }) _
  jvm_step X₁.here [X₁.here.top, hexec, d3', Value.category]
  exact X₁.ldcString hexec (own := own) (text := text) (index := is) (a := sa) hown' hstr'.1 hstr'.2
    (g := { method := m, pc := pc + 4, locals := ls, stack := .ref T.heap.size :: .ref T.heap.size :: rest, locked := none }) rfl d4' _ hsteps
end ZXU
end
section
/-! zx: told, which throws: the method, the law's own that catches, the law's call -/
def zx_y1 : MethodName := ⟨"OperaHouse", "told", "(II)I"⟩
def zx_y2 : MethodName := ⟨"OperaHouseLaw", "told", "(LOperaHouse;II[J)I"⟩
def zx_at0 : List Jvm.Cond := (zx_thr "OperaHouse" 242 "java/util/NoSuchElementException" "java/lang/RuntimeException" ["java/lang/Exception"]).filter vx_no
def zx_nx : List Jvm.Cond := [.declares (Bundle.initS "java/lang/RuntimeException"), .declares (Bundle.initS "java/lang/Exception"), .declares (Bundle.initS Bundle.tN), .castable "java/util/NoSuchElementException" "java/util/NoSuchElementException"]
set_option maxRecDepth 1000000 in
theorem zx_at_x : ∀ w ∈ zx_at0.filter (fun w => !goodWord w), w ∈ zx_nx := by decide +kernel
set_option maxRecDepth 1000000 in
theorem zx_at_l : ∀ w ∈ zx_at0.filter goodWord, w ∈ lw_tbl := by decide +kernel
theorem zx_at_g : ∀ w ∈ zx_at0.filter goodWord, w ∈ zx_Ts := fun w hw => List.mem_filter.mpr ⟨zx_at_l w hw, (List.mem_filter.mp hw).2⟩
set_option maxRecDepth 1000000 in
theorem zx_nx_l : ∀ w ∈ zx_nx, w ∈ lw_tbl := by decide +kernel
set_option maxRecDepth 1000000 in
theorem zx_at_o : ∀ w ∈ Jvm.Cond.classLink "OperaHouse" 238 "java/util/NoSuchElementException" :: Jvm.Cond.initialized "java/util/NoSuchElementException" :: zx_at0, vx_ot w = true := by decide +kernel
theorem zx_nx_warm {s U : State} (hW : s.WarmedH U.vm) (h : ∀ w ∈ zx_nx, va_Nw w s) : ∀ w ∈ zx_nx, va_Nw w U := by
  intro w hw
  have h2 := h w hw
  simp only [zx_nx, List.mem_cons, List.not_mem_nil, or_false] at hw
  rcases hw with rfl | rfl | rfl | rfl
  · exact va_Nw.warmD hW h2
  · exact va_Nw.warmD hW h2
  · exact va_Nw.warmD hW h2
  · exact va_Nw.warmC hW h2
theorem zx_nx_on : ∀ w ∈ zx_nx, w.onTables = true := by
  intro w hw
  simp only [zx_nx, List.mem_cons, List.not_mem_nil, or_false] at hw
  rcases hw with rfl | rfl | rfl | rfl <;> rfl
/-- what a throw wants of a state -/
def zx_XE (A : Nat → Prop) (U : State) : Prop := (∀ w ∈ zx_nx, va_Nw w U) ∧ (∃ sa, vk_R "OperaHouse" 240 "nothing such was wrong" sa U) ∧ vx_Zq Bundle.tN "UNASSIGNED_STACK" Bundle.steD A U U.heap ∧ vx_Zq Bundle.tN "SUPPRESSED_SENTINEL" Bundle.listD A U U.heap
theorem zx_XE_move {A : Nat → Prop} {s U : State} (hW : s.WarmedH U.vm) (hk : ∀ a : Nat, a < s.heap.size → ¬ A a → U.heap[a]? = s.heap[a]?) (h : zx_XE A s) : zx_XE A U := by
  obtain ⟨h1, ⟨sa, h2⟩, h3, h4⟩ := h
  exact ⟨zx_nx_warm hW h1, ⟨sa, vk_R.warm hW h2⟩, vx_Zq.moved hW.alike (h3.kept hk), vx_Zq.moved hW.alike (h4.kept hk)⟩
def zx_Px (D : va_G) (A : Nat → Prop) (ex : List Nat) (tys : List (ClassId × FieldType)) (ws : va_W) (sz : Nat) (av : List Value) : Array Value → State → Prop :=
  va_Pc av (fun U => (U.heap.size = sz ∧ va_P D vwCl ws U.heap ∧ va_K D vwCl tys U ∧ va_D A ws ∧ zx_EV ex A zx_sts zx_Yt zx_nw zx_aos U) ∧ zx_XE A U)
theorem zx_Px_blind {D : va_G} {A : Nat → Prop} {ex : List Nat} {tys : List (ClassId × FieldType)} {ws : va_W} {sz : Nat} {av : List Value} : FrameBlind (zx_Px D A ex tys ws sz av) := by
  intro a U g mk h
  obtain ⟨h0, h1, h2, ⟨sa, h3⟩, h4, h5⟩ := h
  have hb := (zx_blind (D := D) (cl := vwCl) (A := A) (ex := ex) (sts := zx_sts) (Y := zx_Yt) (nw := zx_nw) (aos := zx_aos) (tys := tys) (ws := ws) (sz := sz) (av := av) zx_nw_kind) a U g mk ⟨h0, h1⟩
  have hvm : U.vm.Alike (U.calling g mk a).vm := Vm.Alike.refl U.vm
  exact ⟨hb.1, hb.2, fun w hw => va_Nw.same (zx_nx_on w hw) (rfl : U.vm = (U.calling g mk a).vm) (h2 w hw), ⟨sa, vk_R.same (rfl : (U.calling g mk a).vm = U.vm) h3⟩, vx_Zq.moved (U := U.calling g mk a) hvm h4, vx_Zq.moved (U := U.calling g mk a) hvm h5⟩
/-- behind a throw: the cells as they were at one of the cuts -/
def zx_XC (D : va_G) (A : Nat → Prop) (b : Nat) (ex : List Nat) (ρ : List Int) (ws : va_W) (los : List zx_Os) : String → State → State → Prop := fun E st t =>
  E = "java/util/NoSuchElementException" ∧ (∃ q : Nat × zx_T, .inr q ∈ los ∧ ∃ (r2 : List Int) (tys' : List (ClassId × FieldType)) (ws' : va_W), zx_ok (ρ ++ r2) q.2.1 ∧ va_K D vwCl tys' t ∧ va_P D vwCl ws' t.heap ∧ va_D A ws' ∧ (∃ xt, zx_as ws' = zx_as ws ++ xt) ∧ zx_F2 (fun c e => zx_RC vwCl b ex (ρ ++ r2) (zx_as ws') tys' c e.2) q.2.2.1 ws') ∧ va_F A st t
def zx_f0 : zx_Fn := fun _ _ _ _ => none
theorem zx_f0_ok {l : Launch} {d : Nat} : zx_FOK l vwCl zx_Ts zx_nw zx_sts zx_Yt zx_aos zx_PRt zx_rmt d zx_f0 := by
  intro j y cc maxL ret rm _ _ G h as os hz
  cases hz
theorem zx_LK0 {own : String} : zx_LK own vwCl zx_Ts zx_nw zx_PRt (zx_fd []) := by
  intro ix q hq
  cases hq
def zx_tt1 : List (Nat × Instr × Nat) := [(0, .iload_n 1, 1), (1, .ifCond .lt 20, 3), (4, .iload_n 1, 1), (5, .aload_n 0, 1), (6, .getfield 235, 3), (9, .if_icmp .ge 12, 3)]
def zx_mt1 : zx_MD := (zx_tt1, ((zx_fd zx_Fc0, zx_fd zx_Sc0, zx_fd zx_Cc0, zx_fd zx_Ic0, zx_has zx_Lc0, zx_fd [], 4, false, (1, 6), false), (zx_fd [], 0)))
set_option maxRecDepth 1000000 in
theorem zx_bt1 : zx_tbk prog_1_method_19_code zx_tt1 = true := by decide +kernel
def zx_tt2 : List (Nat × Instr × Nat) := [(0, .aload_n 3, 1), (1, .iconst 0, 1), (2, .aload_n 0, 1), (3, .iload_n 1, 1), (4, .iload_n 2, 1), (15, .iconst 1, 1), (16, .ireturn, 1)]
def zx_mt2 : zx_MD := (zx_tt2, ((zx_fd zx_Fc13, zx_fd zx_Sc13, zx_fd zx_Cc13, zx_fd zx_Ic13, zx_has zx_Lc13, zx_fd [], 5, false, (1, 6), false), (zx_fd [], 0)))
set_option maxRecDepth 1000000 in
theorem zx_bt2 : zx_tbk method_3_code zx_tt2 = true := by decide +kernel
set_option maxRecDepth 1000000 in
theorem zx_d1 : decode prog_1_method_19_code 21 = .ok (.new 238, 3) ∧ decode prog_1_method_19_code 24 = .ok (.dup, 1) ∧ decode prog_1_method_19_code 25 = .ok (.ldc 240, 2) ∧ decode prog_1_method_19_code 27 = .ok (.invokespecial 242, 3) ∧ decode prog_1_method_19_code 30 = .ok (.athrow, 1) := by decide +kernel
set_option maxRecDepth 1000000 in
theorem zx_d2 : decode method_3_code 5 = .ok (.invokevirtual 7, 3) ∧ decode method_3_code 13 = .ok (.astore 4, 2) := by decide +kernel
set_option maxRecDepth 1000000 in
theorem zx_w1 : ∀ w ∈ ([.classLink "OperaHouse" 238 "java/util/NoSuchElementException", .initialized "java/util/NoSuchElementException", .classLink "OperaHouseLaw" 13 "java/util/NoSuchElementException", .methodLink "OperaHouseLaw" 7 zx_y1, .instanceMethod zx_y1, .selects "OperaHouse" zx_y1 zx_y1, .initialized "OperaHouse", .methodLink "OperaHouseLaw" 89 zx_y2, .static zx_y2, .initialized "OperaHouseLaw", .code zx_y1 prog_1_method_19_code 4 (some .int), .codeWith zx_y2 method_3_code 5 (some .int) [(0, 10, 13, 13)]] : List Jvm.Cond), w ∈ lw_tbl ∧ goodWord w = true := by decide +kernel
theorem zx_w1t : ∀ w ∈ ([.classLink "OperaHouse" 238 "java/util/NoSuchElementException", .initialized "java/util/NoSuchElementException", .classLink "OperaHouseLaw" 13 "java/util/NoSuchElementException", .methodLink "OperaHouseLaw" 7 zx_y1, .instanceMethod zx_y1, .selects "OperaHouse" zx_y1 zx_y1, .initialized "OperaHouse", .methodLink "OperaHouseLaw" 89 zx_y2, .static zx_y2, .initialized "OperaHouseLaw", .code zx_y1 prog_1_method_19_code 4 (some .int), .codeWith zx_y2 method_3_code 5 (some .int) [(0, 10, 13, 13)]] : List Jvm.Cond), w ∈ zx_Ts := fun w hw => List.mem_filter.mpr (zx_w1 w hw)
end
section
/-! zx: told's contract: it throws -/
section ZXO
variable {l : Launch} {D : va_G} {A : Nat → Prop} {b : Nat} {ex : List Nat} {ρ : List Int} {tys : List (ClassId × FieldType)} {ws : va_W} {sz : Nat} {av : List Value} {G : zx_G} {h : List zx_C} {as : List zx_V} {los : List zx_Os} {n : Nat}
theorem zx_t1_ok (hl : l.stackTraces = false) (hz : zx_ex zx_Yt zx_dt zx_rmt (fun pc => Nat.beq pc 21) zx_mt1 zx_f0 n zx_tt1 G h (zx_args 0 as) (0, 0) [] = some los) (hall : ∀ o ∈ los, ∃ q : Nat × zx_T, o = .inr q ∧ q.1 = 21 ∧ q.2.2.2.2.1 = [] ∧ q.2.2.2.2.2 = (0, 0)) (hcats : zx_cats as ≤ 4) (hG : zx_ok ρ G) (hh : zx_F2 (fun c q => zx_RC vwCl b ex ρ (zx_as ws) tys c q.2) h ws) (ha : zx_F2 (zx_R b ex ρ (zx_as ws)) as av) (hA : ∀ q, sz ≤ q → A q) :
    vx_Met l zx_y1 (Jvm.Cond.code zx_y1 prog_1_method_19_code 4 (some .int) :: zx_Ts) ({ frames := 8, cells := 1, slots := 6, locals := 200 }) (zx_Px D A ex tys ws sz av) (fun _ _ _ _ => False) (zx_XC D A b ex ρ ws los) 1 6 A := by
  refine vx_ofW (cc := prog_1_method_19_code) (maxL := 4) (ret := some .int) (by decide) rfl ?_
  intro p e s m args below meth c s₁ B hml hexc hv
  obtain ⟨rfl, ⟨hsz, hP, hK, hD, hCX, hnw, hao⟩, hnx, ⟨sa, hstr⟩, hU, hN⟩ := hv
  have hx := B.exec
  have hb := B.bytes
  have hts0 := atoms_spec (ws := Jvm.Cond.code zx_y1 prog_1_method_19_code 4 (some .int) :: zx_Ts) B.pre
  have hts : ∀ w ∈ zx_Ts, w.before av.toArray s = true := fun w hw => hts0 w (List.mem_cons_of_mem _ hw)
  have hown : s.vm.findClass zx_oc0 = some m.cls := findClass_of_methodNamed B.named
  have hlocks := B.notSynchronized
  have hA' : ∀ q, s.heap.size ≤ q → A q := fun q hq => hA q (by rw [← hsz]; exact hq)
  have F : zx_FX p s m av.toArray meth c ({ frames := 8, cells := 1, slots := 6, locals := 200 } : Room) prog_1_method_19_code zx_oc0 zx_Ts zx_nw vwCl A ex 4 zx_sts zx_Yt zx_aos zx_dt zx_mt1.2.1 :=
    ⟨hx, hb, hown, hts, hnw, hA', ⟨rfl, rfl⟩, (fun q => nomatch (show false = true from q)), rfl, hCX, hao, zx_CKt, zx_MK_of zx_kFc0 zx_kLc0⟩
  have hlv := lv_entry av (n := 4) (by rw [zx_words ha]; exact hcats)
  rw [lg_entry_eq]
  generalize (lg_sl av ++ List.replicate (4 - (lg_sl av).length) Slot.unset).toArray = ls at hlv ⊢
  have J : zx_J D vwCl A b ex (zx_as ws) 4 s ρ G h (zx_args 0 as) [] s.heap [] ls [] :=
    ⟨hG, tys, ws, lv_args 0 av, hK, hP, hD, ⟨va_S.rf, [], by rw [List.append_nil]⟩, hh, zx_args_ok 0 ha, hlv, trivial⟩
  refine zx_ex_ok (xs := fun _ => 0) (d := 0) F zx_arrs zx_f0_ok zx_LK0 zx_Ts_good zx_nw_kind ⟨by decide, by decide⟩ hml (zx_TB_of zx_bt1) n (0, .iload_n 1, 1) _ ρ G h (zx_args 0 as) (0, 0) [] los s.heap [] ls [] (fun q => nomatch (show false = true from q)) (fun _ hy => hy) J hz ⟨fun o ho => ?_, fun q hq r2 H' locs' ls' kc' J' => ?_⟩
  · obtain ⟨q, h1, -⟩ := hall _ ho
    cases h1
  · obtain ⟨q', h1, h2, h3, h4⟩ := hall _ hq
    cases h1
    obtain ⟨hG', tys', ws', lc', b1, b2, b3, ⟨b4, b40⟩, b5, b6, b7, b8⟩ := J'
    rw [h3] at b8
    cases kc' with
    | cons _ _ => exact b8.elim
    | nil =>
      have hk1 : q.2.2.2.2.2.1 = 0 := by rw [h4]
      have hk2 : q.2.2.2.2.2.2 = 0 := by rw [h4]
      rw [hk1, hk2, h2]
      have hnx' : ∀ w ∈ zx_at0, w.before av.toArray s = true := vx_hat (fun w hw => hts w (zx_at_g w hw)) zx_at_x (fun w hw => va_Nw.use (zx_nx_on w hw) (hnx w hw))
      obtain ⟨d0, d3, d4, d6, d9⟩ := zx_d1
      exact zx_throw (own := "OperaHouse") (cls := "java/util/NoSuchElementException") (Z := "java/lang/RuntimeException") (text := "nothing such was wrong") (names := ["java/lang/Exception"]) (A := A) (sa := sa) hx hb hl hown (by decide) (by decide) (by decide)
        (hts _ (zx_w1t _ (by simp))) (hts _ (zx_w1t _ (by simp))) hstr hnx' zx_at_o hU hN b4 (by rw [b7.1, hml]) d0 d3 d4 d6 d9 (fun x hx => (hexc x hx).elim) (by decide) (by decide) (by decide) (by decide) hlocks
        (fun t hta hs hk => ⟨rfl, ⟨q, hq, r2, tys', ws', hG', va_K.moved hta b1, b2.kept (fun k z hz' => hk z.1 ((b2 k z hz').lt)), b3, b40, b5⟩, Nat.le_trans b4.1 hs, fun z k1 k2 => by rw [hk z (Nat.lt_of_lt_of_le k1 b4.1)]; exact b4.2.1 z k1 k2⟩)
        b4.2.2 (by decide) (by decide)
end ZXO
end
section
/-! zx: the law's told's contract: it catches -/
theorem zx_ofWH {l : Launch} {y : MethodName} {ws ws' : List Jvm.Cond} {rm : Room} {Pc : Array Value → State → Prop} {Qc : Array Value → State → Outcome → State → Prop} {mc ms : Nat} {free : Addr → Prop} {cc : ByteArray} {maxL : Nat} {ret : Option FieldType} {hh : List (Nat × Nat × Nat × Nat)}
    (hy : plainName y.cls = true) (hw : ws = Jvm.Cond.codeWith y cc maxL ret hh :: ws')
    (body : ∀ p e s m args below meth c s₁, BodyLoose p l y (headSpec ws rm) cc maxL ret e s m args below meth c s₁ → c.maxLocals = maxL → Pc args s →
      W p l e (headSpec ws rm).room s m args below meth c s.heap [] 0 0 (MQ below Qc args s mc ms free) (entryFrame m args maxL)) : Met l y ws rm Pc Qc mc ms free := by
  refine MetFree.of_bodyS (code := cc) (maxLocals := maxL) (ret := ret) hy ?_ ?_
  · intro args s m h hn
    obtain ⟨m9, meth, c, hn9, h1, h2, h3, h4, -, h5, h6, -⟩ := Cond.codeWith_spec (atoms_spec (ws := ws) h _ (by rw [hw]; exact List.mem_cons_self))
    cases hn.symm.trans hn9
    exact ⟨meth, c, h1, h2, h3, h4, h5, h6⟩
  · intro p e s m args below meth c s₁ B hml hP _
    have hh0 : s₁.heap = s.heap := by rw [B.state]; rfl
    obtain ⟨t, a1, o, b1, b2, b3⟩ := body p e s m args below meth c s₁ B hml hP s₁ hh0 (Stand.of_body B)
    exact ⟨t, o, a1, b1, b2, b3⟩
def zx_t2o : List zx_Os → List zx_Ou
  | [] => []
  | .inr q :: r => (q.2.1, q.2.2.1, some (.inl ([], 1))) :: zx_t2o r
  | .inl _ :: r => zx_t2o r
theorem zx_t2o_mem {q : Nat × zx_T} : ∀ {l : List zx_Os}, .inr q ∈ l → (q.2.1, q.2.2.1, some (.inl ([], 1))) ∈ zx_t2o l
  | .inr q1 :: r, h => by
    rw [zx_t2o]
    rcases List.mem_cons.mp h with e | e
    · cases e; exact List.mem_cons_self
    · exact List.mem_cons_of_mem _ (zx_t2o_mem e)
  | .inl _ :: r, h => by
    rw [zx_t2o]
    rcases List.mem_cons.mp h with e | e
    · cases e
    · exact zx_t2o_mem e
set_option maxRecDepth 1000000 in
theorem zx_t2e (G : zx_G) (h : List zx_C) : zx_ex zx_Yt zx_dt zx_rmt (fun _ => false) zx_mt2 zx_f0 3 [(15, .iconst 1, 1), (16, .ireturn, 1)] G h [] (1, 6) [] = some [.inl (G, h, some (.inl ([], 1)))] := rfl
section ZXV
variable {l : Launch} {D : va_G} {A : Nat → Prop} {b : Nat} {ex : List Nat} {ρ : List Int} {tys : List (ClassId × FieldType)} {ws : va_W} {sz : Nat} {av : List Value} {G : zx_G} {h : List zx_C} {as : List zx_V} {los : List zx_Os} {n : Nat}
theorem zx_t2_ok (hl : l.stackTraces = false) {q2 : Nat × zx_T} {w k : zx_V} {ids : List Nat} {r : List zx_V} (hz : zx_ex zx_Yt zx_dt zx_rmt (fun pc => Nat.beq pc 5) zx_mt2 zx_f0 n zx_tt2 G h (zx_args 0 as) (0, 0) [] = some [.inr q2]) (hq1 : q2.1 = 5) (hq2 : q2.2.2.2.2.1 = w :: k :: .inr (.inl (ids, false)) :: r) (hq3 : q2.2.2.2.2.2 = (0, 0)) (hobj : zx_objs q2.2.2.1 10 ids = true) (hr8 : zx_cats r ≤ 8)
    (hz1 : zx_ex zx_Yt zx_dt zx_rmt (fun pc => Nat.beq pc 21) zx_mt1 zx_f0 n zx_tt1 q2.2.1 q2.2.2.1 (zx_args 0 [.inr (.inl (ids, false)), k, w]) (0, 0) [] = some los) (hall : ∀ o ∈ los, ∃ q : Nat × zx_T, o = .inr q ∧ q.1 = 21 ∧ q.2.2.2.2.1 = [] ∧ q.2.2.2.2.2 = (0, 0)) (hcats1 : zx_cats [.inr (.inl (ids, false)), k, w] ≤ 4) (hcats : zx_cats as ≤ 5)
    (hG : zx_ok ρ G) (hh : zx_F2 (fun c q => zx_RC vwCl b ex ρ (zx_as ws) tys c q.2) h ws) (ha : zx_F2 (zx_R b ex ρ (zx_as ws)) as av) (hA : ∀ q, sz ≤ q → A q) :
    Met l zx_y2 (Jvm.Cond.codeWith zx_y2 method_3_code 5 (some .int) [(0, 10, 13, 13)] :: zx_Ts) ({ frames := 12, cells := 1, slots := 6, locals := 600 }) (zx_Px D A ex tys ws sz av) (zx_Qc D vwCl A b ex ρ ws (zx_t2o los)) 1 6 A := by
  refine zx_ofWH (cc := method_3_code) (maxL := 5) (ret := some .int) (by decide) rfl ?_
  intro p e s m args below meth c s₁ B hml hv
  obtain ⟨rfl, ⟨hsz, hP, hK, hD, hCX, hnw, hao⟩, hXE⟩ := hv
  have hx := B.exec
  have hb := B.bytes
  have hret := B.returns
  have hts0 := atoms_spec (ws := Jvm.Cond.codeWith zx_y2 method_3_code 5 (some .int) [(0, 10, 13, 13)] :: zx_Ts) B.pre
  have hts : ∀ w ∈ zx_Ts, w.before av.toArray s = true := fun w hw => hts0 w (List.mem_cons_of_mem _ hw)
  have htab := vx_table (x := zx_y2) B (hts0 _ List.mem_cons_self)
  have hown : s.vm.findClass zx_oc13 = some m.cls := findClass_of_methodNamed B.named
  have hlocks := B.notSynchronized
  have hA' : ∀ q, s.heap.size ≤ q → A q := fun q hq => hA q (by rw [← hsz]; exact hq)
  have F : zx_FX p s m av.toArray meth c ({ frames := 12, cells := 1, slots := 6, locals := 600 } : Room) method_3_code zx_oc13 zx_Ts zx_nw vwCl A ex 5 zx_sts zx_Yt zx_aos zx_dt zx_mt2.2.1 :=
    ⟨hx, hb, hown, hts, hnw, hA', ⟨rfl, rfl⟩, (fun q => nomatch (show false = true from q)), rfl, hCX, hao, zx_CKt, zx_MK_of zx_kFc13 zx_kLc13⟩
  have hlv := lv_entry av (n := 5) (by rw [zx_words ha]; exact hcats)
  rw [lg_entry_eq]
  generalize (lg_sl av ++ List.replicate (5 - (lg_sl av).length) Slot.unset).toArray = ls at hlv ⊢
  have J : zx_J D vwCl A b ex (zx_as ws) 5 s ρ G h (zx_args 0 as) [] s.heap [] ls [] :=
    ⟨hG, tys, ws, lv_args 0 av, hK, hP, hD, ⟨va_S.rf, [], by rw [List.append_nil]⟩, hh, zx_args_ok 0 ha, hlv, trivial⟩
  refine zx_ex_ok (xs := fun _ => 0) (d := 0) F zx_arrs zx_f0_ok zx_LK0 zx_Ts_good zx_nw_kind ⟨by decide, by decide⟩ hml (zx_TB_of zx_bt2) n (0, .aload_n 3, 1) _ ρ G h (zx_args 0 as) (0, 0) [] [.inr q2] s.heap [] ls [] (fun q => nomatch (show false = true from q)) (fun _ hy => hy) J hz ⟨fun o ho => ?_, fun q hq r2 H' locs' ls' kc' J' => ?_⟩
  · rcases List.mem_cons.mp ho with e1 | e1
    · cases e1
    · cases e1
  · rcases List.mem_cons.mp hq with e1 | e1
    · cases e1
      obtain ⟨hG', tys', ws', lc', b1, b2, b3, ⟨b4, xt, b40⟩, b5, b6, b7, b8⟩ := J'
      rw [hq2] at b8
      match kc', b8 with
      | vw :: vk :: vx :: kr, b8 =>
        obtain ⟨hw', hk', hx', hr'⟩ := b8
        rcases hx' with ⟨h4, -⟩ | ⟨i0, a, h4, h5, rfl⟩
        · cases h4
        · have hk1 : q2.2.2.2.2.2.1 = 0 := by rw [hq3]
          have hk2 : q2.2.2.2.2.2.2 = 0 := by rw [hq3]
          rw [hk1, hk2, hq1]
          obtain ⟨o1, ss, o2⟩ := zx_objs_ok hobj h4
          have Bz : zx_B D vwCl A b ex (zx_as ws) 5 s (ρ ++ r2) q2.2.2.1 q2.2.2.2.1 r H' locs' ls' kr tys' ws' lc' := ⟨b1, b2, b3, ⟨b4, xt, b40⟩, b5, b6, b7, hr'⟩
          obtain ⟨en, g1, fs, rfl, g2⟩ := zx_cell Bz o1 h5 o2
          have hM := zx_t1_ok (l := l) (D := D) (A := A) (b := b) (ex := ex) (ρ := ρ ++ r2) (tys := tys') (ws := ws') (sz := H'.size) (av := [.ref a, vk, vw]) hl hz1 hall hcats1 hG' b5 ⟨Or.inr ⟨i0, a, h4, h5, rfl⟩, hk', hw', trivial⟩ (fun x hx => hA' x (Nat.le_trans b4.1 hx))
          have hcall : CallFix p m c method_3_code 5 s av.toArray zx_Ts zx_oc13 := ⟨hx, hb, hml, hown, hts⟩
          have hgo : ∀ w ∈ zx_Ts, w ∈ zx_Ts ∧ ((w.onTables && w.keeps) = true ∨ ∃ ty, w = .arrayClass ty) := fun w hw => ⟨hw, good_of_word (List.all_eq_true.mp zx_Ts_good w hw)⟩
          have hgT : GoodIn zx_Ts (Jvm.Cond.code zx_y1 prog_1_method_19_code 4 (some .int) :: zx_Ts) := by
            intro w hw
            exact hgo w ((List.mem_cons.mp hw).elim (fun g => by rw [g]; exact zx_w1t _ (by simp)) id)
          have hpre : ∀ U : State, U.heap = H' → s.WarmedH U.vm → zx_Px D A ex tys' ws' H'.size [.ref a, vk, vw] [Value.ref a, vk, vw].toArray U := fun U hU hW =>
            ⟨rfl, ⟨by rw [hU], by rw [hU]; exact b2, va_K.moved hW.alike b1, b3, by rw [hU]; exact zx_CX_move hW.alike (fun a h1 h2 => b4.2.1 a h1 h2) hCX, zx_nw_warm zx_nw_kind hW hnw, fun C hC => va_AO.moved hW.alike (hao C hC)⟩, zx_XE_move hW (fun a h1 h2 => by rw [hU]; exact b4.2.1 a h1 h2) hXE⟩
          have hcl10 : vwCl[10]? = some (RX11, TX11, 14) := rfl
          have hrun : vx_Run p l e ({ frames := 12, cells := 1, slots := 6, locals := 600 } : Room) s m av.toArray below meth c H' locs' 0 0 1 6 (F0 m 5 ls' (vw :: vk :: .ref a :: kr)) kr (fun _ _ _ => False) (zx_XC D A b ex (ρ ++ r2) ws' los) A :=
            vx_runV (As := [vk, vw]) (b := a) (rest := kr) (C := "OperaHouse") (own := zx_oc13) (index := 7) (n := 2) hcall hM (cwV 2 hts (fun w hw => by
              rcases List.mem_append.mp hw with hw | hw
              · simp only [List.mem_cons, List.not_mem_nil, or_false] at hw
                rcases hw with rfl | rfl | rfl | rfl
                · exact hgo _ (zx_w1t _ (by simp [zx_oc13]))
                · exact hgo _ (zx_w1t _ (by simp))
                · exact hgo _ (zx_w1t _ (by simp))
                · exact hgo _ (zx_w1t _ (by simp [zx_y1]))
              · exact hgT w hw) rfl rfl rfl ⟨rfl, by decide, by decide, by decide⟩ ⟨by decide, by decide⟩) ⟨zx_Px_blind, va_recv b1 b2 hcl10 g1, hpre⟩ rfl rfl b7.1 rfl (lv_room (by rw [zx_cats_ok hr']; exact hr8)) zx_d2.1 ⟨by decide, by decide⟩
          intro T hT X
          rcases hrun T hT X with ⟨v, st₀, t, T', L, h0, X', hL, e1, e2, hf, st⟩ | ⟨q9, st₀, t, T', L, E, ce, h0, X', hL, e1, e2, ⟨rfl, ⟨q3, hq3', r3, tys3, ws3, c1, c2, c3, c4, ⟨xt3, c5⟩, c6⟩, hF⟩, hce, hcv, hcl, st⟩
          · exact hf.elim
          · have hS3 : va_S A s.heap T'.heap (locs' ++ L) := ⟨Nat.le_trans b4.1 (by rw [e1, ← h0]; exact hF.1), fun q h1 h2 => by rw [e1, hF.2 q (by rw [h0]; exact Nat.lt_of_lt_of_le h1 b4.1) h2, h0]; exact b4.2.1 q h1 h2, fun q hq => by
                rcases List.mem_append.mp hq with h | h
                · exact b4.2.2 q h
                · exact hL q h⟩
            have hvm : t.vm.Alike s.vm := by rw [← e2]; exact X'.warmed.alike.symm
            rw [List.append_assoc] at c1 c6
            have kk : W p l e ({ frames := 12, cells := 1, slots := 6, locals := 600 } : Room) s m av.toArray below meth c T'.heap (locs' ++ L) (0 + 1) (0 + 6) (MQ below (zx_Qc D vwCl A b ex ρ ws (zx_t2o los)) av.toArray s 1 6 A) (F0 m 13 ls' [.ref q9]) := by
              refine lv_astore (nL := 5) hx hb zx_d2.2 b7 (by decide) rfl (fun ls'' hl'' => ?_)
              refine zx_ex_ok (xs := fun _ => 0) (d := 0) F zx_arrs zx_f0_ok zx_LK0 zx_Ts_good zx_nw_kind ⟨by decide, by decide⟩ hml (zx_TB_of zx_bt2) 3 (15, .iconst 1, 1) [(16, .ireturn, 1)] (ρ ++ (r2 ++ r3)) q3.2.1 q3.2.2.1 [] (1, 6) [] [.inl (q3.2.1, q3.2.2.1, some (.inl ([], 1)))] T'.heap (locs' ++ L) ls'' [] (fun q => nomatch (show false = true from q)) (fun y hy => by
                  rcases List.mem_cons.mp hy with rfl | hy
                  · simp [zx_mt2, zx_tt2]
                  · rcases List.mem_cons.mp hy with rfl | hy
                    · simp [zx_mt2, zx_tt2]
                    · cases hy) ⟨c1, tys3, ws3, [], va_K.moved hvm c2, by rw [e1]; exact c3, c4, ⟨hS3, xt ++ xt3, by rw [c5, b40, List.append_assoc]⟩, c6, trivial, ⟨hl''.1, hl''.2.1, fun _ hq => absurd hq List.not_mem_nil⟩, trivial⟩ (zx_t2e _ _) ⟨fun o ho => ?_, fun q hq => ?_⟩
              · intro r4 H4 locs4 ls4 kc4 pc4 k4 ir tys4 ws4 f1 f2 f3 f4 f5 f6 f7 f8 f9 f10 f11
                rcases List.mem_cons.mp ho with e9 | e9
                · cases e9
                  refine W.widen (k := 1) (n := 6) f8 f9 ?_
                  rcases f11 with ⟨-, e3, -⟩ | ⟨rfl, e3, w3, e4, rfl, e5, e6⟩ | ⟨-, q5, x5, e3, -⟩ | ⟨-, w5, e3, -⟩
                  · cases e3
                  · cases e4
                    have hx1 : zx_R b ex ((ρ ++ (r2 ++ r3)) ++ r4) (zx_as ws4) (.inl ([], 1)) (.int w3) := ⟨w3, rfl, e5⟩
                    have hn := (zx_fit_ok (ty := .int) f1 e6 hx1).1
                    refine W.zret hx hb hret hn (fun t9 ht9 hW9 => ?_) f5.2.2 f10
                    rw [List.append_assoc] at f1 f7 hx1
                    exact ⟨⟨_, zx_t2o_mem hq3', some (.int w3), (r2 ++ r3) ++ r4, tys4, ws4, rfl, f1, va_K.moved hW9.alike f2, by rw [ht9]; exact f3, f4, f6, f7, hx1⟩, f5.F ht9⟩
                  · cases e3
                  · cases e3
                · cases e9
              · rcases List.mem_cons.mp hq with e9 | e9
                · cases e9
                · cases e9
            have kx := vx_catch (own := zx_oc13) (name := "java/util/NoSuchElementException") (E := "java/util/NoSuchElementException") (ce := ce) (q := q9) (pc := 5) (rest := kr) hown [] ⟨0, 10, 13, 13⟩ [] htab (fun _ hz' => nomatch hz') (by decide) (by decide) (hts _ (zx_w1t _ (by simp [zx_oc13]))) (va_Nw.use (w := .castable "java/util/NoSuchElementException" "java/util/NoSuchElementException") rfl (hXE.1 _ (by simp [zx_nx]))) (by rw [e1]; exact hce) hcv hcl kk
            obtain ⟨t2, a1, a2⟩ := kx T' rfl X'
            exact ⟨t2, st.trans a1, a2⟩
      | [], b8 => exact b8.elim
      | [_], b8 => exact b8.2.elim
      | [_, _], b8 => exact b8.2.2.elim
    · cases e1
end ZXV
end
section
/-! zx: the law's call of told -/
def zx_vx : zx_V := .inr (.inl ([64], false))
def zx_vk : zx_V := .inl ([(2, 1)], 0)
def zx_vw : zx_V := .inl ([(3, 1)], 0)
def zx_vo : zx_V := .inr (.inl ([351], false))
def zx_q917 : Nat × zx_T := (917, zx_GA 15, zx_hA, zx_lvA, [zx_vo, zx_vw, zx_vk, zx_vx], (288, 73089))
def zx_q5 : Nat × zx_T := (5, zx_GA 15, zx_hA, zx_args 0 [zx_vx, zx_vk, zx_vw, zx_vo], [zx_vw, zx_vk, zx_vx, .inl ([], 0), zx_vo], (0, 0))
def zx_GB (lo hi : Int) : zx_G := [(6, 6), (-2147483648, 2147483647), (lo, hi), (-2147483648, 2147483647), (-2147483648, 2147483647), (-2147483648, 2147483647), (-2147483648, 2147483647), (15, 15)]
def zx_q21 (lo hi : Int) : Nat × zx_T := (21, zx_GB lo hi, zx_hA, zx_args 0 [zx_vx, zx_vk, zx_vw], [], (0, 0))
def zx_los : List zx_Os := [.inr (zx_q21 (-2147483648) (-1)), .inr (zx_q21 0 2147483647)]
set_option maxRecDepth 1000000 in
theorem zx_r917 : zx_ex zx_Yt zx_dt zx_rmt (fun pc => Nat.beq pc 917) zx_mlaw zx_f0 60 (zx_drop 903 zx_tlaw) (zx_GA 15) zx_hA zx_lvA (288, 73089) [] = some [.inr zx_q917] := zx_eqA_ok (by decide +kernel)
set_option maxRecDepth 1000000 in
theorem zx_r5 : zx_ex zx_Yt zx_dt zx_rmt (fun pc => Nat.beq pc 5) zx_mt2 zx_f0 60 zx_tt2 (zx_GA 15) zx_hA (zx_args 0 [zx_vx, zx_vk, zx_vw, zx_vo]) (0, 0) [] = some [.inr zx_q5] := zx_eqA_ok (by decide +kernel)
set_option maxRecDepth 1000000 in
theorem zx_r21 : zx_ex zx_Yt zx_dt zx_rmt (fun pc => Nat.beq pc 21) zx_mt1 zx_f0 60 zx_tt1 (zx_GA 15) zx_hA (zx_args 0 [zx_vx, zx_vk, zx_vw]) (0, 0) [] = some zx_los := zx_eqA_ok (by decide +kernel)
set_option maxRecDepth 1000000 in
theorem zx_o64 : zx_objs zx_hA 10 [64] = true := by decide +kernel
set_option maxRecDepth 1000000 in
theorem zx_r920 : (zx_back [] (289, 73095) (zx_t2o zx_los)).all (fun q => zx_lB zx_ft 400 (920, q.1, q.2.1, zx_lvA, q.2.2.1, q.2.2.2)) = true := by decide +kernel
set_option maxRecDepth 1000000 in
theorem zx_d917 : decode code 917 = .ok (.invokestatic 89, 3) := by decide +kernel
theorem zx_los_all : ∀ o ∈ zx_los, ∃ q : Nat × zx_T, o = .inr q ∧ q.1 = 21 ∧ q.2.2.2.2.1 = [] ∧ q.2.2.2.2.2 = (0, 0) := by
  intro o ho
  simp only [zx_los, List.mem_cons, List.not_mem_nil, or_false] at ho
  rcases ho with rfl | rfl
  · exact ⟨_, rfl, rfl, rfl, rfl⟩
  · exact ⟨_, rfl, rfl, rfl, rfl⟩
section ZXQ
variable {p : Program} {l : Launch} {e : Env} {s : State} {m : MethodId} {below : List Frame} {meth : Method} {c : Code} {b L : Nat} {xs : Nat → Int32} {D : va_G} {ex : List Nat}
theorem zx_o903 (hl : l.stackTraces = false) (hXE : zx_XE (zx_A0 s) s) (hL : L ≤ 6) (C0 : lw_At p s m meth c b L xs) (hCX : zx_CX ex (zx_A0 s) s s.heap zx_sts zx_Yt) {r : List Int} {H : Heap} {locs : List Loc} {ls : Array Slot} {kc : List Value}
    (J : zx_J D vwCl (zx_A0 s) b ex [] 7 s ([(L : Int), (xs 0).toInt, (xs 1).toInt, (xs 2).toInt, (xs 3).toInt, (xs 4).toInt, (xs 5).toInt] ++ r) (zx_GA 15) zx_hA zx_lvA [] H locs ls kc) : W p l e room_1 s m #[Value.ref b] below meth c H locs 288 73089 (lw_Z below #[Value.ref b] s) (F0 m 903 ls kc) := by
  have hr917 := zx_r917
  cases hc : zx_drop 903 zx_tlaw with
  | nil => rw [hc, zx_ex_nil] at hr917; cases hr917
  | cons x nx =>
    obtain ⟨g1, g2⟩ := zx_drop_ok (t := 903) (l := zx_tlaw)
    rw [hc] at hr917 g1
    rw [← g2 x nx hc]
    refine zx_law_ok (k := (288, 73089)) hL C0 hCX (zx_f0_ok (d := 0)) (by decide) g1 J hr917 (fun o ho => ?_) (fun q hq r2 H' locs' ls' kc' J' => ?_)
    · rcases List.mem_cons.mp ho with e1 | e1
      · cases e1
      · cases e1
    · rcases List.mem_cons.mp hq with e1 | e1
      · cases e1
        obtain ⟨hG', tys', ws', lc', b1, b2, b3, ⟨b4, b40⟩, b5, b6, b7, b8⟩ := J'
        match kc', b8 with
        | vo :: vw :: vk :: vx :: kr, b8 =>
          obtain ⟨ho', hw', hk', hx', hr'⟩ := b8
          cases kr with
          | cons _ _ => exact hr'.elim
          | nil =>
            obtain ⟨hx, hb, hr, hml, hown, hts, hX, hbl, hlocks, hgv⟩ := id C0
            have htT : ∀ w ∈ zx_Ts, w.before #[Value.ref b] s = true := fun w hw => hts w (List.mem_filter.mp hw).1
            have hA : ∀ q, s.heap.size ≤ q → zx_A0 s q := fun _ h => h
            have hM := zx_t2_ok (l := l) (D := D) (A := zx_A0 s) (b := b) (ex := ex) (tys := tys') (ws := ws') (sz := H'.size) (av := [vx, vk, vw, vo]) (q2 := zx_q5) (w := zx_vw) (k := zx_vk) (ids := [64]) (r := [.inl ([], 0), zx_vo]) hl zx_r5 rfl rfl rfl zx_o64 (by decide) zx_r21 zx_los_all (by decide) (by decide) hG' b5 ⟨hx', hk', hw', ho', trivial⟩ (fun z hz => Nat.le_trans b4.1 hz)
            have hcall : CallFix p m c code 7 s #[Value.ref b] zx_Ts R_law := ⟨hx, hb, hml, hown, htT⟩
            have hgo : ∀ w ∈ zx_Ts, w ∈ zx_Ts ∧ ((w.onTables && w.keeps) = true ∨ ∃ ty, w = .arrayClass ty) := fun w hw => ⟨hw, good_of_word (List.all_eq_true.mp zx_Ts_good w hw)⟩
            have hpre : ∀ U : State, U.heap = H' → s.WarmedH U.vm → zx_Px D (zx_A0 s) ex tys' ws' H'.size [vx, vk, vw, vo] [vx, vk, vw, vo].toArray U := fun U hU hW =>
              ⟨rfl, ⟨by rw [hU], by rw [hU]; exact b2, va_K.moved hW.alike b1, b3, by rw [hU]; exact zx_CX_move hW.alike (fun a h1 h2 => b4.2.1 a h1 h2) hCX, zx_nw_warm zx_nw_kind hW (zx_nw0 hts), fun C hC => va_AO.moved hW.alike (zx_ao0 hts C hC)⟩, zx_XE_move hW (fun a h1 h2 => by rw [hU]; exact b4.2.1 a h1 h2) hXE⟩
            have Bz : zx_B D vwCl (zx_A0 s) b ex [] 7 s _ zx_hA zx_lvA [] H' locs' ls' [] tys' ws' lc' := ⟨b1, b2, b3, ⟨b4, b40⟩, b5, b6, b7, trivial⟩
            refine zx_run_W (k := (288, 73089)) (rm := (1, 6)) hA Bz (vx_runSW (As := [vx, vk, vw, vo]) (rest := []) (own := R_law) (index := 89) (n := 4) hcall hM (vx_cwSW 4 htT (fun w hw => by
              rcases List.mem_append.mp hw with hw | hw
              · simp only [List.mem_cons, List.not_mem_nil, or_false] at hw
                rcases hw with rfl | rfl | rfl
                · exact hgo _ (zx_w1t _ (by simp [R_law]))
                · exact hgo _ (zx_w1t _ (by simp))
                · exact hgo _ (zx_w1t _ (by simp [zx_y2]))
              · exact hgo w ((List.mem_cons.mp hw).elim (fun g => by rw [g]; exact zx_w1t _ (by simp)) id)) rfl rfl rfl ⟨by decide, by decide, by decide⟩ ⟨by decide, by decide⟩) ⟨zx_Px_blind, hpre⟩ rfl rfl b7.1 rfl (lv_room (by decide)) zx_d917 ⟨by decide, by decide⟩) (fun q hq r3 H3 locs3 kc3 J3 => ?_)
            have hq3 := List.all_eq_true.mp zx_r920 q hq
            rw [List.append_assoc] at J3
            exact zx_lB_ok (q := (920, q.1, q.2.1, zx_lvA, q.2.2.1, q.2.2.2)) hL C0 hCX zx_ft_ok (by decide) hq3 J3
        | [], b8 => exact b8.elim
        | [_], b8 => exact b8.2.elim
        | [_, _], b8 => exact b8.2.2.elim
        | [_, _, _], b8 => exact b8.2.2.2.elim
      · cases e1
end ZXQ
end
section
/-! zx: words of the start -/
set_option maxRecDepth 1000000 in
theorem zx_m240 : Jvm.Cond.stringRef "OperaHouse" 240 "nothing such was wrong" ∈ lw_tbl := by decide +kernel
set_option maxRecDepth 1000000 in
theorem zx_mU : Jvm.Cond.laysStatic Bundle.tN "UNASSIGNED_STACK" Bundle.steD ∈ lw_tbl ∧ Jvm.Cond.laysStatic Bundle.tN "SUPPRESSED_SENTINEL" Bundle.listD ∈ lw_tbl ∧ Jvm.Cond.initialized Bundle.tN ∈ lw_tbl := by decide +kernel
set_option maxRecDepth 1000000 in
theorem zx_mR0 : Jvm.Cond.isRef (.static Bundle.tN "UNASSIGNED_STACK" Bundle.steD) ∈ flatC (Jvm.Cond.and given_1 narrow_1) ∧ Jvm.Cond.isRef (.static Bundle.tN "SUPPRESSED_SENTINEL" Bundle.listD) ∈ flatC (Jvm.Cond.and given_1 narrow_1) := by decide +kernel
end
section
/-! zx: the whole walk -/
theorem zx_XE0 {s : State} {D : va_G} {args : Array Value} (hts : ∀ w ∈ lw_tbl, w.before args s = true) (hgv : (Jvm.Cond.and given_1 narrow_1).before args s = true) (hK : va_K D vwCl [] s) : zx_XE (zx_A0 s) s := by
  have hs := flat_of_before _ hgv
  have hA : ∀ a : Nat, a < s.heap.size → ¬ zx_A0 s a := fun a h q => Nat.not_le.mpr h q
  have hcl : s.vm.findClass "OperaHouse" = some (D.1 10) := (hK.1 10 (RX11, TX11, 14) rfl).2.1
  obtain ⟨-, -, -, sa, -, -, -, -, -, hev⟩ := Cond.stringRef_spec (args := args) (first := s) (o := none) (s := s) (idx := []) hcl (hts _ zx_m240)
  exact ⟨fun w hw => va_Nw.of (zx_nx_on w hw) (hts w (zx_nx_l w hw)), ⟨sa, vk_R.of (hts _ zx_m240) hev⟩, vx_Zqof (hts _ zx_mU.1) (hts _ zx_mU.2.2) (hs _ zx_mR0.1) hA, vx_Zqof (hts _ zx_mU.2.1) (hts _ zx_mU.2.2) (hs _ zx_mR0.2) hA⟩
theorem zx_osA_1 : ∀ o, .inl o ∈ zx_osA → zx_is1 o = true := by
  intro o ho
  simp only [zx_osA, List.mem_cons, List.not_mem_nil, or_false] at ho
  rcases ho with h | h | h | h | h | h | h | h | h | h | h | h | h | h | h | h | h | h | h | h | h | h | h | h | h | h | h | h | h | h
  · cases h; rfl
  · cases h; rfl
  · cases h
  · cases h
  · cases h
  · cases h
  · cases h
  · cases h
  · cases h
  · cases h
  · cases h
  · cases h
  · cases h
  · cases h
  · cases h
  · cases h
  · cases h
  · cases h
  · cases h
  · cases h
  · cases h
  · cases h
  · cases h
  · cases h
  · cases h
  · cases h
  · cases h
  · cases h
  · cases h
  · cases h
theorem zx_GA0 {L : Nat} (hL : L ≤ 6) (xs : Nat → Int32) : zx_ok ([(L : Int), (xs 0).toInt, (xs 1).toInt, (xs 2).toInt, (xs 3).toInt, (xs 4).toInt, (xs 5).toInt] ++ []) zx_G0 := by
  refine ⟨rfl, fun i v b hv hb => ?_⟩
  rw [List.append_nil] at hv
  match i, hv, hb with
  | 0, hv, hb => cases hv; cases hb; exact ⟨by show (0 : Int) ≤ (L : Int); omega, by show (L : Int) ≤ 6; omega⟩
  | 1, hv, hb => cases hv; cases hb; exact zx_i32 _
  | 2, hv, hb => cases hv; cases hb; exact zx_i32 _
  | 3, hv, hb => cases hv; cases hb; exact zx_i32 _
  | 4, hv, hb => cases hv; cases hb; exact zx_i32 _
  | 5, hv, hb => cases hv; cases hb; exact zx_i32 _
  | 6, hv, hb => cases hv; cases hb; exact zx_i32 _
  | n + 7, hv, hb => simp at hv
/-- from the entry, for every script of at most 6 ints, the law comes to its end with true -/
theorem whole_start {p : Program} {e : Env} {s : State} {m : MethodId} {below : List Frame} {meth : Method} {c : Code} (l : Launch) (hflags : l.flags = flags0) {b L : Nat} {xs : Nat → Int32} (hL : L ≤ 6) (C0 : lw_At p s m meth c b L xs) : W p l e room_1 s m #[Value.ref b] below meth c s.heap [] 0 0 (lw_Z below #[Value.ref b] s) (entryFrame m ([Value.ref b] : List Value).toArray 7) := by
  have hl : l.stackTraces = false := by unfold Launch.stackTraces; rw [hflags]; decide
  obtain ⟨hx, hb, hr, hml, hown, hts, hX, hbl, hlocks, hgv⟩ := id C0
  obtain ⟨ex, hCX⟩ := zx_CX0 hts hgv
  have htT : ∀ w ∈ zx_Ts, w.before #[Value.ref b] s = true := fun w hw => hts w (List.mem_filter.mp hw).1
  obtain ⟨D, hK⟩ := zx_K0 htT
  have hXE := zx_XE0 hts hgv hK
  have hlv := lv_entry [Value.ref b] (n := 7) (by show 1 ≤ 7; omega)
  rw [lg_entry_eq]
  generalize (lg_sl [Value.ref b] ++ List.replicate (7 - (lg_sl [Value.ref b]).length) Slot.unset).toArray = ls at hlv ⊢
  have J : zx_J D vwCl (zx_A0 s) b ex [] 7 s ([(L : Int), (xs 0).toInt, (xs 1).toInt, (xs 2).toInt, (xs 3).toInt, (xs 4).toInt, (xs 5).toInt] ++ []) zx_G0 [] [(0, .inr (.inr false))] [] s.heap [] ls [] :=
    ⟨zx_GA0 hL xs, [], [], lv_args 0 [Value.ref b], hK, fun k q h => by simp at h, ⟨fun i j p q h => by simp at h, fun k q h => by simp at h⟩, ⟨va_S.rf, [], rfl⟩, trivial, ⟨⟨rfl, rfl⟩, trivial⟩, hlv, trivial⟩
  have hSA := zx_SA_eq
  unfold zx_SA at hSA
  obtain ⟨x, nx, h1, h2⟩ : ∃ (x : Nat × Instr × Nat) (nx : List (Nat × Instr × Nat)), zx_tlaw = x :: nx ∧ x.1 = 0 := ⟨_, _, rfl, rfl⟩
  rw [h1] at hSA
  have g : W p l e room_1 s m #[Value.ref b] below meth c s.heap [] 0 0 (lw_Z below #[Value.ref b] s) (F0 m x.1 ls []) := by
    refine zx_law_ok (k := (0, 0)) hL C0 hCX zx_ft_ok (by decide) (fun y hy => by rw [h1]; exact hy) J hSA zx_osA_1 (fun q hq r2 H' locs' ls' kc' J' => ?_)
    simp only [zx_osA, List.mem_cons, List.not_mem_nil, or_false] at hq
    rcases hq with h | h | h | h | h | h | h | h | h | h | h | h | h | h | h | h | h | h | h | h | h | h | h | h | h | h | h | h | h | h
    · cases h
    · cases h
    · cases h; exact zx_lB_ok hL C0 hCX zx_ft_ok (by decide) zx_o168 J'
    · cases h; exact zx_lB_ok hL C0 hCX zx_ft_ok (by decide) zx_o241 J'
    · cases h; exact zx_lB_ok hL C0 hCX zx_ft_ok (by decide) zx_o266 J'
    · cases h; exact zx_lB_ok hL C0 hCX zx_ft_ok (by decide) zx_o291 J'
    · cases h; exact zx_lB_ok hL C0 hCX zx_ft_ok (by decide) zx_o368 J'
    · cases h; exact zx_lB_ok hL C0 hCX zx_ft_ok (by decide) zx_o417 J'
    · cases h; exact zx_lB_ok hL C0 hCX zx_ft_ok (by decide) zx_o466 J'
    · cases h; exact zx_lB_ok hL C0 hCX zx_ft_ok (by decide) zx_o503 J'
    · cases h; exact zx_lB_ok hL C0 hCX zx_ft_ok (by decide) zx_o528 J'
    · cases h; exact zx_lB_ok hL C0 hCX zx_ft_ok (by decide) zx_o541 J'
    · cases h; exact zx_lB_ok hL C0 hCX zx_ft_ok (by decide) zx_o602 J'
    · cases h; exact zx_lB_ok hL C0 hCX zx_ft_ok (by decide) zx_o675 J'
    · cases h; exact zx_lB_ok hL C0 hCX zx_ft_ok (by decide) zx_o752 J'
    · cases h; exact zx_lB_ok hL C0 hCX zx_ft_ok (by decide) zx_o801 J'
    · cases h; exact zx_lB_ok hL C0 hCX zx_fm_ok (by decide) zx_o878 J'
    · cases h; exact zx_o903 hl hXE hL C0 hCX J'
    · cases h; exact zx_lB_ok hL C0 hCX zx_ft_ok (by decide) zx_o971 J'
    · cases h; exact zx_lB_ok hL C0 hCX zx_ft_ok (by decide) zx_o1032 J'
    · cases h; exact zx_lB_ok hL C0 hCX zx_ft_ok (by decide) zx_o1081 J'
    · cases h; exact zx_lB_ok hL C0 hCX zx_ft_ok (by decide) zx_o1130 J'
    · cases h; exact zx_lB_ok hL C0 hCX zx_fm_ok (by decide) zx_o1179 J'
    · cases h; exact zx_lB_ok hL C0 hCX zx_ft_ok (by decide) zx_o1216 J'
    · cases h; exact zx_lB_ok hL C0 hCX zx_ft_ok (by decide) zx_o1265 J'
    · cases h; exact zx_lB_ok hL C0 hCX zx_ft_ok (by decide) zx_o1314 J'
    · cases h; exact zx_lB_ok hL C0 hCX zx_ft_ok (by decide) zx_o1351 J'
    · cases h; exact zx_lB_ok hL C0 hCX zx_ft_ok (by decide) zx_o1400 J'
    · cases h; exact zx_lB_ok hL C0 hCX zx_ft_ok (by decide) zx_o1425 J'
    · cases h; exact zx_lB_ok hL C0 hCX zx_ft_ok (by decide) zx_o1438 J'
  rw [h2] at g
  exact g
end
section
set_option maxHeartbeats 4000000 in
theorem lw_walk (l : Launch) (hflags : l.flags = flags0) (b : Addr) (xs : List Int32) : MetFree l x (headSpec (Jvm.Cond.code x code maxLocals ret :: tables_1) room_1) (lw_P b xs) (fun _ _ _ _ _ => True) lw_Q := by
  refine MetFree.of_bodyS (code := code) (maxLocals := maxLocals) (ret := ret) (by decide) ?_ ?_
  · intro args s m h hn
    obtain ⟨meth, c, h1, h2, h3, h4, h5, h6, -, -⟩ := Cond.code_spec hn (atoms_spec (ws := Jvm.Cond.code x code maxLocals ret :: tables_1) h _ List.mem_cons_self)
    exact ⟨meth, c, h1, h2, h3, h4, h5, h6⟩
  · intro p e s m args below meth c s₁ B hml0 hP _
    obtain ⟨rfl, hx, hbd, hgv⟩ := hP
    obtain ⟨scr, harrAt, hlist, hof, hsmall⟩ := hx
    obtain ⟨hcb, hkn, -, -⟩ := State.arrayAt?_spec harrAt
    have hown : s.vm.findClass R_law = some m.cls := findClass_of_methodNamed B.named
    have hts0 : ∀ c ∈ (Jvm.Cond.code x code maxLocals ret :: tables_1), c.before #[Value.ref b] s = true := atoms_spec (ws := Jvm.Cond.code x code maxLocals ret :: tables_1) B.pre
    have hts : ∀ w ∈ lw_tbl, w.before #[Value.ref b] s = true := k2_hts_sels lw_privs (fun w hw => hts0 w (List.mem_cons_of_mem _ hw)) lw_privs_ok
    have hml : c.maxLocals = 7 := B.maxLocals_eq (hts0 _ List.mem_cons_self)
    have X₀ : Stand p l e room_1 s m #[Value.ref b] below meth c s₁ [] 0 0 := Stand.of_body B
    have hh0 : s₁.heap = s.heap := by rw [B.state]; rfl
    have hsz : scr.slots.size = xs.length := by rw [← Array.length_toList, hlist, List.length_map]
    have hval : ∀ j : Nat, j < xs.length → scr.slots[j]? = some (.int (xs.getD j 0)) := fun j hj => by
      rw [← Array.getElem?_toList, hlist]
      simp [hj]
    have hbl : b < s.heap.size := (Array.getElem?_eq_some_iff.mp hcb).1
    have hX : va_X b xs.length (fun j => xs.getD j 0) s s.heap := ⟨scr, hcb, hof, hkn, hsz, hval⟩
    have K : W p l e room_1 s m #[Value.ref b] below meth c s₁.heap [] 0 0 (lw_Z below #[Value.ref b] s) (entryFrame m ([Value.ref b] : List Value).toArray 7) := by
      rw [hh0]
      exact whole_start l hflags hbd ⟨B.exec, B.bytes, B.returns, hml, hown, hts, hX, hbl, B.notSynchronized, hgv⟩
    obtain ⟨t, a1, o, b1, b2, b3⟩ := K s₁ rfl X₀
    exact ⟨t, o, a1, b1, b2, b3⟩
theorem lw_pre_spec {args : Array Value} {s : State} (h : (Jvm.Cond.and given_1 narrow_1).before args s = true) (hr : rest_1_c.before args s = true) : ∃ (b : Addr) (xs : List Int32), lw_P b xs args s := by
  have hs := flat_of_before _ h
  have hq := flat_of_before _ hr
  have hc : (Cond.count 1).before args s = true := hs _ (by decide +kernel)
  have harr : (Cond.arrayOf (.arg 0) .int).before args s = true := hs _ (by decide +kernel)
  have hle : (Cond.le (.length (.arg 0)) (.int 6)).before args s = true := hs _ (by decide +kernel)
  have hlen : (Cond.isInt (.length (.arg 0))).before args s = true := hq _ (by decide +kernel)
  have hall : (Cond.all (.arg 0) (.isInt (.elem (.arg 0) (.index 0)))).before args s = true := hq _ (by decide +kernel)
  obtain ⟨b, xs, hb, hx⟩ := State.ints_of_pre rfl harr hlen hall
  have hsm : xs.length < 2 ^ 31 := hx.choose_spec.2.2.2
  have hev : (Term.length (.arg 0)).eval args s none [] s = some (.int xs.length.toInt32) := hx.length_eval hb
  have hv := Cond.le_ints hev (show (Term.int 6).eval args s none [] s = some (.int 6) from rfl)
  have hd : xs.length.toInt32 ≤ 6 := by
    simpa [Cond.before, Cond.holds, hv] using hle
  have hN : xs.length ≤ 6 := (Int32.ofNat_le_ofNat hsm (by decide)).mp (show Int32.ofNat xs.length ≤ Int32.ofNat 6 from hd)
  exact ⟨b, xs, Cond.one_arg hc (show args[0]? = some (.ref b) from hb), hx, hN, h⟩
theorem lw_comes (l : Launch) (hflags : l.flags = flags0) : Comes l x (Jvm.Cond.code x code maxLocals ret :: tables_1) room_1 (fun tb e args s => Calls_1 tb e args s ∧ rest_1 tb e args s ∧ Pre_1 tb e args s)
    (fun _ _ args s o t => lw_Q args s o t) := by
  intro p e ha hc hk s m args below hf hfit hheap happ hpre
  obtain ⟨b, xs, hP⟩ := lw_pre_spec hpre.2.2 hpre.2.1
  obtain ⟨k, o, h1, h2, h3, hQ⟩ := lw_walk l hflags b xs p e ha hc hk s m args below hf ((Spec.applies_iff_loose hf).mp happ).1 hP trivial
  exact ⟨k, o, h1, h2, h3, hQ⟩
theorem lw_frame {s t : State} {o : Outcome} {args : Array Value} (h : Framed s o t [] 600002 7302232) :
    Framed s o t (fieldLocs frame_1_writes args s ++ arrayLocs frame_1_arrays args s ++ staticLocs frame_1_statics s) 600002 7302232 := h
theorem lw_limb (L : Cond) (hL : ∀ (args : Array Value) (s t : State), L.after args s (.returned (some (.int 1))) t = true) :
    ArmFor flags0 classFile x code maxLocals ret World_1 tables_1 room_1 Calls_1 rest_1 Pre_1
      (fun tb e a s o t => postC L tb e a s o t ∧ Framed s o t (fieldLocs frame_1_writes a s ++ arrayLocs frame_1_arrays a s ++ staticLocs frame_1_statics s) 600002 7302232) := by
  intro l hflags _ _ p e ha hc hk s m args below hf hfit hheap happ hpre
  obtain ⟨k, o, h1, h2, h3, rfl, hF⟩ := lw_comes l hflags p e ha hc hk s m args below hf hfit hheap happ hpre
  exact ⟨k, _, h1, h2, h3, hL args s _, lw_frame hF⟩
theorem i_vc : Claimed_1_1 ∧ Claimed_1_2 := ⟨lw_limb limb_1_1 (fun args s t => by simp [limb_1_1, Cond.after, Cond.holds, Cond.value]), lw_limb limb_1_2 (fun args s t => Cond.after_iff.mpr (by
  first | (rw [show limb_1_2 = Cond.eq .result (.int 1) from rfl, Cond.eq_ints (x := 1) (y := 1) rfl rfl]; simp; done) | (simp [limb_1_2, Cond.value, Term.eval]; done)))⟩
end
