section
/-! zx: runs of the code over numbers that are only known between two bounds. Here: numbers, lists -/
abbrev zx_L : Type := List (Nat × Int) × Int
abbrev zx_V : Type := zx_L ⊕ ((List Nat × Bool) ⊕ Bool)
abbrev zx_S : Type := zx_V ⊕ (Int × Int)
abbrev zx_C : Type := (Nat × List zx_S) ⊕ ((Nat × Nat × Bool × List zx_S) ⊕ Nat)
abbrev zx_G : Type := List (Int × Int)
def zx_F2 {α β : Type} (R : α → β → Prop) : List α → List β → Prop
  | [], [] => True
  | a :: l, b :: m => R a b ∧ zx_F2 R l m
  | [], _ :: _ => False
  | _ :: _, [] => False
theorem zx_F2_len {α β : Type} {R : α → β → Prop} : ∀ {l : List α} {m : List β}, zx_F2 R l m → l.length = m.length
  | [], [], _ => rfl
  | _ :: _, _ :: _, h => by rw [List.length_cons, List.length_cons, zx_F2_len h.2]
  | [], _ :: _, h => h.elim
  | _ :: _, [], h => h.elim
theorem zx_F2_get {α β : Type} {R : α → β → Prop} : ∀ {l : List α} {m : List β} {i : Nat} {a : α}, zx_F2 R l m → l[i]? = some a → ∃ b, m[i]? = some b ∧ R a b
  | a0 :: l, b0 :: m, 0, a, h, hi => ⟨b0, rfl, by cases hi; exact h.1⟩
  | a0 :: l, b0 :: m, i + 1, a, h, hi => by
    obtain ⟨b, h1, h2⟩ := zx_F2_get (i := i) h.2 (by simpa using hi)
    exact ⟨b, by simpa using h1, h2⟩
  | [], _, _, _, _, hi => by simp at hi
  | _ :: _, [], _, _, h, _ => h.elim
theorem zx_F2_set {α β : Type} {R : α → β → Prop} {a : α} {b : β} (hab : R a b) : ∀ {l : List α} {m : List β} (i : Nat), zx_F2 R l m → zx_F2 R (l.set i a) (m.set i b)
  | [], [], _, _ => trivial
  | _ :: _, _ :: _, 0, h => ⟨hab, h.2⟩
  | _ :: _, _ :: _, i + 1, h => ⟨h.1, zx_F2_set hab i h.2⟩
  | [], _ :: _, _, h => h.elim
  | _ :: _, [], _, h => h.elim
theorem zx_F2_imp {α β : Type} {R S : α → β → Prop} (hRS : ∀ a b, R a b → S a b) : ∀ {l : List α} {m : List β}, zx_F2 R l m → zx_F2 S l m
  | [], [], _ => trivial
  | _ :: _, _ :: _, h => ⟨hRS _ _ h.1, zx_F2_imp hRS h.2⟩
  | [], _ :: _, h => h.elim
  | _ :: _, [], h => h.elim
theorem zx_F2_app {α β : Type} {R : α → β → Prop} {l' : List α} {m' : List β} (h' : zx_F2 R l' m') : ∀ {l : List α} {m : List β}, zx_F2 R l m → zx_F2 R (l ++ l') (m ++ m')
  | [], [], _ => h'
  | _ :: _, _ :: _, h => ⟨h.1, zx_F2_app h' h.2⟩
  | [], _ :: _, h => h.elim
  | _ :: _, [], h => h.elim
theorem zx_F2_filter {α β : Type} {R : α → β → Prop} {f : α → Bool} {g : β → Bool} (hfg : ∀ a b, R a b → f a = g b) : ∀ {l : List α} {m : List β}, zx_F2 R l m → zx_F2 R (l.filter f) (m.filter g)
  | [], [], _ => trivial
  | a :: l, b :: m, h => by
    rw [List.filter_cons, List.filter_cons, ← hfg a b h.1]
    by_cases hf : f a = true
    · rw [if_pos hf, if_pos hf]; exact ⟨h.1, zx_F2_filter hfg h.2⟩
    · rw [if_neg hf, if_neg hf]; exact zx_F2_filter hfg h.2
  | [], _ :: _, h => h.elim
  | _ :: _, [], h => h.elim
theorem zx_F2_take {α β : Type} {R : α → β → Prop} : ∀ (n : Nat) {l : List α} {m : List β}, zx_F2 R l m → zx_F2 R (l.take n) (m.take n) ∧ zx_F2 R (l.drop n) (m.drop n)
  | 0, _, _, h => ⟨trivial, h⟩
  | n + 1, [], [], _ => ⟨trivial, trivial⟩
  | n + 1, _ :: _, _ :: _, h => ⟨⟨h.1, (zx_F2_take n h.2).1⟩, (zx_F2_take n h.2).2⟩
  | _ + 1, [], _ :: _, h => h.elim
  | _ + 1, _ :: _, [], h => h.elim
theorem zx_F2_rev {α β : Type} {R : α → β → Prop} : ∀ {l : List α} {m : List β}, zx_F2 R l m → zx_F2 R l.reverse m.reverse
  | [], [], _ => trivial
  | a :: l, b :: m, h => by
    rw [List.reverse_cons, List.reverse_cons]
    exact zx_F2_app (l' := [a]) (m' := [b]) ⟨h.1, trivial⟩ (zx_F2_rev h.2)
  | [], _ :: _, h => h.elim
  | _ :: _, [], h => h.elim
theorem zx_F2_rep {α β : Type} {R : α → β → Prop} {a : α} {b : β} (h : R a b) : ∀ n : Nat, zx_F2 R (List.replicate n a) (List.replicate n b)
  | 0 => trivial
  | n + 1 => ⟨h, zx_F2_rep h n⟩
/-! a sum of unknowns -/
def zx_evl (ρ : List Int) : List (Nat × Int) → Option Int
  | [] => some 0
  | q :: r => match ρ[q.1]?, zx_evl ρ r with
    | some v, some w => some (q.2 * v + w)
    | some _, none => none
    | none, _ => none
def zx_ev (ρ : List Int) (e : zx_L) : Option Int := (zx_evl ρ e.1).map (fun w => w + e.2)
theorem zx_evl_cons {ρ : List Int} {q : Nat × Int} {r : List (Nat × Int)} {w : Int} : zx_evl ρ (q :: r) = some w ↔ ∃ v u, ρ[q.1]? = some v ∧ zx_evl ρ r = some u ∧ w = q.2 * v + u := by
  rw [zx_evl]
  constructor
  · intro h
    split at h
    · rename_i v u h1 h2
      exact ⟨v, u, h1, h2, (Option.some.inj h).symm⟩
    · cases h
    · cases h
  · rintro ⟨v, u, h1, h2, h3⟩
    rw [h1, h2, h3]
theorem zx_ev_iff {ρ : List Int} {e : zx_L} {w : Int} : zx_ev ρ e = some w ↔ ∃ u, zx_evl ρ e.1 = some u ∧ w = u + e.2 := by
  rw [zx_ev]
  constructor
  · intro h
    obtain ⟨u, h1, h2⟩ := Option.map_eq_some_iff.mp h
    exact ⟨u, h1, h2.symm⟩
  · rintro ⟨u, h1, h2⟩
    rw [h1, h2]; rfl
theorem zx_evl_app {ρ r : List Int} : ∀ {l : List (Nat × Int)} {w : Int}, zx_evl ρ l = some w → zx_evl (ρ ++ r) l = some w
  | [], _, h => h
  | q :: t, w, h => by
    obtain ⟨v, u, h1, h2, h3⟩ := zx_evl_cons.mp h
    refine zx_evl_cons.mpr ⟨v, u, ?_, zx_evl_app h2, h3⟩
    rw [List.getElem?_append_left (List.getElem?_eq_some_iff.mp h1).1]; exact h1
theorem zx_ev_app {ρ r : List Int} {e : zx_L} {w : Int} (h : zx_ev ρ e = some w) : zx_ev (ρ ++ r) e = some w := by
  obtain ⟨u, h1, h2⟩ := zx_ev_iff.mp h
  exact zx_ev_iff.mpr ⟨u, zx_evl_app h1, h2⟩
def zx_ins (x : Nat) (c : Int) : List (Nat × Int) → List (Nat × Int)
  | [] => [(x, c)]
  | q :: r => if q.1 = x then (if q.2 + c = 0 then r else (x, q.2 + c) :: r) else q :: zx_ins x c r
theorem zx_ins_ev {ρ : List Int} {x : Nat} {c v : Int} (hv : ρ[x]? = some v) : ∀ {l : List (Nat × Int)} {w : Int}, zx_evl ρ l = some w → zx_evl ρ (zx_ins x c l) = some (c * v + w)
  | [], w, h => by
    rw [zx_ins]
    exact zx_evl_cons.mpr ⟨v, w, hv, h, rfl⟩
  | q :: r, w, h => by
    obtain ⟨v', u, h1, h2, h3⟩ := zx_evl_cons.mp h
    rw [zx_ins]
    by_cases hq : q.1 = x
    · rw [if_pos hq]
      have hvv : v' = v := by rw [hq, hv] at h1; exact (Option.some.inj h1).symm
      subst hvv
      by_cases hz : q.2 + c = 0
      · rw [if_pos hz, h2, h3]
        have : c * v' + (q.2 * v' + u) = (q.2 + c) * v' + u := by rw [Int.add_mul]; omega
        rw [this, hz]; simp
      · rw [if_neg hz]
        exact zx_evl_cons.mpr ⟨v', u, hv, h2, by rw [h3, Int.add_mul]; omega⟩
    · rw [if_neg hq]
      exact zx_evl_cons.mpr ⟨v', c * v + u, h1, zx_ins_ev hv h2, by rw [h3]; omega⟩
def zx_adds : List (Nat × Int) → List (Nat × Int) → List (Nat × Int)
  | [], b => b
  | q :: r, b => zx_ins q.1 q.2 (zx_adds r b)
theorem zx_adds_ev {ρ : List Int} {b : List (Nat × Int)} {w' : Int} (hb : zx_evl ρ b = some w') : ∀ {a : List (Nat × Int)} {w : Int}, zx_evl ρ a = some w → zx_evl ρ (zx_adds a b) = some (w + w')
  | [], w, h => by cases h; rw [zx_adds, hb]; simp
  | q :: r, w, h => by
    obtain ⟨v, u, h1, h2, h3⟩ := zx_evl_cons.mp h
    rw [zx_adds, zx_ins_ev h1 (zx_adds_ev hb h2), h3]
    congr 1
    omega
def zx_add (e f : zx_L) : zx_L := (zx_adds e.1 f.1, e.2 + f.2)
theorem zx_add_ev {ρ : List Int} {e f : zx_L} {v w : Int} (he : zx_ev ρ e = some v) (hf : zx_ev ρ f = some w) : zx_ev ρ (zx_add e f) = some (v + w) := by
  obtain ⟨u1, h1, h2⟩ := zx_ev_iff.mp he
  obtain ⟨u2, h3, h4⟩ := zx_ev_iff.mp hf
  exact zx_ev_iff.mpr ⟨u1 + u2, zx_adds_ev h3 h1, by rw [h2, h4]; show _ = u1 + u2 + (e.2 + f.2); omega⟩
def zx_scl (c : Int) : List (Nat × Int) → List (Nat × Int)
  | [] => []
  | q :: r => (q.1, c * q.2) :: zx_scl c r
theorem zx_scl_ev {ρ : List Int} (c : Int) : ∀ {a : List (Nat × Int)} {w : Int}, zx_evl ρ a = some w → zx_evl ρ (zx_scl c a) = some (c * w)
  | [], w, h => by cases h; rw [zx_scl, zx_evl]; simp
  | q :: r, w, h => by
    obtain ⟨v, u, h1, h2, h3⟩ := zx_evl_cons.mp h
    rw [zx_scl]
    exact zx_evl_cons.mpr ⟨v, c * u, h1, zx_scl_ev c h2, by rw [h3, Int.mul_add, Int.mul_assoc]⟩
def zx_scale (c : Int) (e : zx_L) : zx_L := if c = 0 then ([], 0) else (zx_scl c e.1, c * e.2)
theorem zx_scale_ev {ρ : List Int} (c : Int) {e : zx_L} {v : Int} (he : zx_ev ρ e = some v) : zx_ev ρ (zx_scale c e) = some (c * v) := by
  obtain ⟨u, h1, h2⟩ := zx_ev_iff.mp he
  rw [zx_scale]
  by_cases hc : c = 0
  · rw [if_pos hc, hc]; exact zx_ev_iff.mpr ⟨0, rfl, by simp⟩
  · rw [if_neg hc]; exact zx_ev_iff.mpr ⟨c * u, zx_scl_ev c h1, by rw [h2, Int.mul_add]⟩
def zx_sub (e f : zx_L) : zx_L := zx_add e (zx_scale (-1) f)
theorem zx_sub_ev {ρ : List Int} {e f : zx_L} {v w : Int} (he : zx_ev ρ e = some v) (hf : zx_ev ρ f = some w) : zx_ev ρ (zx_sub e f) = some (v - w) := by
  have h := zx_add_ev he (zx_scale_ev (-1) hf)
  rw [zx_sub, h]
  congr 1
  omega
def zx_rg (G : zx_G) : List (Nat × Int) → Option (Int × Int)
  | [] => some (0, 0)
  | q :: r => match G[q.1]?, zx_rg G r with
    | some b, some t => if 0 ≤ q.2 then some (q.2 * b.1 + t.1, q.2 * b.2 + t.2) else some (q.2 * b.2 + t.1, q.2 * b.1 + t.2)
    | some _, none => none
    | none, _ => none
def zx_rng (G : zx_G) (e : zx_L) : Option (Int × Int) := match zx_rg G e.1 with
  | some t => some (t.1 + e.2, t.2 + e.2)
  | none => none
def zx_ok (ρ : List Int) (G : zx_G) : Prop := ρ.length = G.length ∧ ∀ (i : Nat) (v : Int) (b : Int × Int), ρ[i]? = some v → G[i]? = some b → b.1 ≤ v ∧ v ≤ b.2
theorem zx_rg_ok {ρ : List Int} {G : zx_G} (hG : zx_ok ρ G) : ∀ {l : List (Nat × Int)} {t : Int × Int} {w : Int}, zx_rg G l = some t → zx_evl ρ l = some w → t.1 ≤ w ∧ w ≤ t.2
  | [], t, w, h, hw => by cases h; cases hw; exact ⟨Int.le_refl _, Int.le_refl _⟩
  | q :: r, t, w, h, hw => by
    obtain ⟨v, u, h1, h2, h3⟩ := zx_evl_cons.mp hw
    rw [zx_rg] at h
    split at h
    · rename_i b t' hb ht
      obtain ⟨k1, k2⟩ := zx_rg_ok hG ht h2
      obtain ⟨g1, g2⟩ := hG.2 _ _ _ h1 hb
      split at h
      · rename_i hq
        cases h
        subst h3
        exact ⟨Int.add_le_add (Int.mul_le_mul_of_nonneg_left g1 hq) k1, Int.add_le_add (Int.mul_le_mul_of_nonneg_left g2 hq) k2⟩
      · rename_i hq
        have hq' : q.2 ≤ 0 := by omega
        cases h
        subst h3
        exact ⟨Int.add_le_add (Int.mul_le_mul_of_nonpos_left hq' g2) k1, Int.add_le_add (Int.mul_le_mul_of_nonpos_left hq' g1) k2⟩
    · cases h
    · cases h
theorem zx_rng_ok {ρ : List Int} {G : zx_G} (hG : zx_ok ρ G) {e : zx_L} {t : Int × Int} {w : Int} (h : zx_rng G e = some t) (hw : zx_ev ρ e = some w) : t.1 ≤ w ∧ w ≤ t.2 := by
  obtain ⟨u, h1, h2⟩ := zx_ev_iff.mp hw
  rw [zx_rng] at h
  split at h
  · rename_i t' ht
    obtain ⟨k1, k2⟩ := zx_rg_ok hG ht h1
    cases h
    subst h2
    exact ⟨by show t'.1 + e.2 ≤ u + e.2; omega, by show u + e.2 ≤ t'.2 + e.2; omega⟩
  · cases h
/-- one more unknown between two bounds -/
theorem zx_ok_push {ρ : List Int} {G : zx_G} (hG : zx_ok ρ G) {v : Int} {b : Int × Int} (h1 : b.1 ≤ v) (h2 : v ≤ b.2) : zx_ok (ρ ++ [v]) (G ++ [b]) := by
  refine ⟨by rw [List.length_append, List.length_append, hG.1]; rfl, fun i x c hx hc => ?_⟩
  by_cases hi : i < ρ.length
  · rw [List.getElem?_append_left hi] at hx
    rw [List.getElem?_append_left (by rw [← hG.1]; exact hi)] at hc
    exact hG.2 i x c hx hc
  · have hl : i < (ρ ++ [v]).length := (List.getElem?_eq_some_iff.mp hx).1
    rw [List.length_append, List.length_singleton] at hl
    have he : i = ρ.length := by omega
    subst he
    rw [List.getElem?_append_right (Nat.le_refl _)] at hx
    rw [hG.1, List.getElem?_append_right (Nat.le_refl _)] at hc
    simp at hx hc
    subst hx; subst hc
    exact ⟨h1, h2⟩
theorem zx_ev_new {ρ : List Int} {G : zx_G} (hG : zx_ok ρ G) (v : Int) : zx_ev (ρ ++ [v]) ([(G.length, 1)], 0) = some v := by
  refine zx_ev_iff.mpr ⟨v, zx_evl_cons.mpr ⟨v, 0, ?_, rfl, by simp⟩, by simp⟩
  show (ρ ++ [v])[G.length]? = some v
  rw [← hG.1]; simp
/-- tighter bounds of one unknown -/
theorem zx_ok_set {ρ : List Int} {G : zx_G} (hG : zx_ok ρ G) {x : Nat} {b : Int × Int} (hb : ∀ v, ρ[x]? = some v → b.1 ≤ v ∧ v ≤ b.2) : zx_ok ρ (G.set x b) := by
  refine ⟨by rw [List.length_set]; exact hG.1, fun i v c hv hc => ?_⟩
  by_cases hi : x = i
  · subst hi
    rw [List.getElem?_set] at hc
    simp only [if_true] at hc
    split at hc
    · cases hc; exact hb v hv
    · cases hc
  · rw [List.getElem?_set, if_neg hi] at hc
    exact hG.2 i v c hv hc
end
section
/-! zx: values, arithmetic, comparisons -/
def zx_ad (ex ad : List Nat) (i : Nat) : Option Nat := if i < 64 then ex[i]? else ad[i - 64]?
def zx_R (b : Nat) (ex : List Nat) (ρ : List Int) (ad : List Nat) (v : zx_V) (x : Value) : Prop := match v with
  | .inl e => ∃ w : Int32, x = .int w ∧ zx_ev ρ e = some w.toInt
  | .inr (.inl r) => (r.2 = true ∧ x = .null) ∨ ∃ i a, i ∈ r.1 ∧ zx_ad ex ad i = some a ∧ x = .ref a
  | .inr (.inr true) => ∃ w : Int64, x = .long w
  | .inr (.inr false) => x = .ref b
theorem zx_ad_app {ex ad q : List Nat} {i a : Nat} (h : zx_ad ex ad i = some a) : zx_ad ex (ad ++ q) i = some a := by
  rw [zx_ad] at h ⊢
  by_cases hi : i < 64
  · rw [if_pos hi] at h ⊢; exact h
  · rw [if_neg hi] at h ⊢
    rw [List.getElem?_append_left (List.getElem?_eq_some_iff.mp h).1]; exact h
theorem zx_R_app {b : Nat} {ex : List Nat} {ρ r : List Int} {ad q : List Nat} {v : zx_V} {x : Value} (h : zx_R b ex ρ ad v x) : zx_R b ex (ρ ++ r) (ad ++ q) v x := by
  rcases v with e | k | k
  · obtain ⟨w, h1, h2⟩ := h
    exact ⟨w, h1, zx_ev_app h2⟩
  · rcases h with h | ⟨i, a, h1, h2, h3⟩
    · exact Or.inl h
    · exact Or.inr ⟨i, a, h1, zx_ad_app h2, h3⟩
  · cases k
    · exact h
    · exact h
theorem zx_R_up {b : Nat} {ex : List Nat} {ρ r : List Int} {ad : List Nat} {v : zx_V} {x : Value} (h : zx_R b ex ρ ad v x) : zx_R b ex (ρ ++ r) ad v x := by
  have h1 := zx_R_app (r := r) (q := []) h
  rwa [List.append_nil] at h1
def zx_cat (v : zx_V) : Nat := match v with
  | .inr (.inr true) => 2
  | _ => 1
theorem zx_R_cat {b : Nat} {ex : List Nat} {ρ : List Int} {ad : List Nat} {v : zx_V} {x : Value} (h : zx_R b ex ρ ad v x) : x.category = zx_cat v := by
  rcases v with e | k | k
  · obtain ⟨w, h1, h2⟩ := h; subst h1; rfl
  · rcases h with ⟨_, h⟩ | ⟨i, a, h1, h2, h3⟩
    · subst h; rfl
    · subst h3; rfl
  · cases k
    · have h1 : x = .ref b := h
      subst h1; rfl
    · obtain ⟨w, h1⟩ := h; subst h1; rfl
def zx_in (t : Int × Int) (lo hi : Int) : Bool := decide (lo ≤ t.1) && decide (t.2 ≤ hi)
theorem zx_in_iff {t : Int × Int} {lo hi : Int} : zx_in t lo hi = true ↔ lo ≤ t.1 ∧ t.2 ≤ hi := by
  rw [zx_in, Bool.and_eq_true, decide_eq_true_iff, decide_eq_true_iff]
def zx_fr (G : zx_G) (lo hi : Int) : zx_G × zx_V := (G ++ [(lo, hi)], .inl ([(G.length, 1)], 0))
abbrev zx_full (G : zx_G) : zx_G × zx_V := zx_fr G (-2147483648) 2147483647
/-- a result: maybe one unknown more, and the value -/
def zx_P (b : Nat) (ex : List Nat) (ρ : List Int) (ad : List Nat) (r : zx_G × zx_V) (x : Value) : Prop := ∃ r2, zx_ok (ρ ++ r2) r.1 ∧ zx_R b ex (ρ ++ r2) ad r.2 x
theorem zx_fr_ok {b : Nat} {ex : List Nat} {ρ : List Int} {ad : List Nat} {G : zx_G} (hG : zx_ok ρ G) {lo hi : Int} {w : Int32} (h1 : lo ≤ w.toInt) (h2 : w.toInt ≤ hi) : zx_P b ex ρ ad (zx_fr G lo hi) (.int w) :=
  ⟨[w.toInt], zx_ok_push hG h1 h2, w, rfl, zx_ev_new hG _⟩
theorem zx_i32 (w : Int32) : -2147483648 ≤ w.toInt ∧ w.toInt ≤ 2147483647 := ⟨w.le_toInt, by have := w.toInt_lt; omega⟩
theorem zx_full_ok {b : Nat} {ex : List Nat} {ρ : List Int} {ad : List Nat} {G : zx_G} (hG : zx_ok ρ G) {w : Int32} : zx_P b ex ρ ad (zx_full G) (.int w) := zx_fr_ok hG (zx_i32 w).1 (zx_i32 w).2
theorem zx_same_ok {b : Nat} {ex : List Nat} {ρ : List Int} {ad : List Nat} {G : zx_G} (hG : zx_ok ρ G) {e : zx_L} {w : Int32} (h : zx_ev ρ e = some w.toInt) : zx_P b ex ρ ad (G, .inl e) (.int w) :=
  ⟨[], by rw [List.append_nil]; exact hG, by rw [List.append_nil]; exact ⟨w, rfl, h⟩⟩
def zx_val (G : zx_G) (e : zx_L) : Option (zx_G × zx_V) := match zx_rng G e with
  | none => none
  | some t => if zx_in t (-2147483648) 2147483647 = true then some (G, .inl e) else some (zx_full G)
theorem zx_val_ok {b : Nat} {ex : List Nat} {ρ : List Int} {ad : List Nat} {G : zx_G} (hG : zx_ok ρ G) {e : zx_L} {v : Int} {w : Int32} {r : zx_G × zx_V} (h : zx_val G e = some r) (hv : zx_ev ρ e = some v) (hw : -2147483648 ≤ v → v ≤ 2147483647 → w.toInt = v) : zx_P b ex ρ ad r (.int w) := by
  rw [zx_val] at h
  split at h
  · cases h
  · rename_i t ht
    obtain ⟨k1, k2⟩ := zx_rng_ok hG ht hv
    split at h
    · rename_i hi
      obtain ⟨g1, g2⟩ := zx_in_iff.mp hi
      cases h
      exact zx_same_ok hG (by rw [hv, hw (by omega) (by omega)])
    · cases h; exact zx_full_ok hG
theorem zx_bm {v : Int} (h1 : -2147483648 ≤ v) (h2 : v ≤ 2147483647) : v.bmod (2 ^ 32) = v := Int.bmod_eq_of_le (by omega) (by omega)
theorem zx_addI (x y : Int32) (h1 : -2147483648 ≤ x.toInt + y.toInt) (h2 : x.toInt + y.toInt ≤ 2147483647) : (x + y).toInt = x.toInt + y.toInt := by rw [Int32.toInt_add, zx_bm h1 h2]
theorem zx_subI (x y : Int32) (h1 : -2147483648 ≤ x.toInt - y.toInt) (h2 : x.toInt - y.toInt ≤ 2147483647) : (x - y).toInt = x.toInt - y.toInt := by rw [Int32.toInt_sub, zx_bm h1 h2]
theorem zx_mulI (x y : Int32) (h1 : -2147483648 ≤ x.toInt * y.toInt) (h2 : x.toInt * y.toInt ≤ 2147483647) : (x * y).toInt = x.toInt * y.toInt := by rw [Int32.toInt_mul, zx_bm h1 h2]
theorem zx_ofI {n : Int} (h1 : -2147483648 ≤ n) (h2 : n ≤ 2147483647) : (Int32.ofInt n).toInt = n := Int32.toInt_ofInt_of_le (by omega) (by omega)
theorem zx_nat {x : Int32} (h : 0 ≤ x.toInt) : x = nI x.toInt.toNat ∧ x.toInt.toNat < 2 ^ 31 := by
  have h2 := (zx_i32 x).2
  refine ⟨Int32.toInt_inj.mp ?_, by omega⟩
  rw [nI_toInt (by omega)]; omega
theorem zx_divI {x y : Int32} (h1 : 0 ≤ x.toInt) (h2 : 0 < y.toInt) : (x / y).toInt = x.toInt / y.toInt := by
  obtain ⟨e1, l1⟩ := zx_nat h1
  obtain ⟨e2, l2⟩ := zx_nat (Int.le_of_lt h2)
  have h3 := pk_div (a := x.toInt.toNat) (d := y.toInt.toNat) l1 (by omega) l2
  rw [← e1, ← e2] at h3
  rw [h3, nI_toInt (Nat.lt_of_le_of_lt (Nat.div_le_self _ _) l1)]
  rw [Int.natCast_ediv, Int.toNat_of_nonneg h1, Int.toNat_of_nonneg (Int.le_of_lt h2)]
theorem zx_remI {x y : Int32} (h1 : 0 ≤ x.toInt) (h2 : 0 < y.toInt) : (x - x / y * y).toInt = x.toInt % y.toInt := by
  obtain ⟨e1, l1⟩ := zx_nat h1
  obtain ⟨e2, l2⟩ := zx_nat (Int.le_of_lt h2)
  have h3 := pk_rem (a := x.toInt.toNat) (d := y.toInt.toNat) l1 (by omega) l2
  rw [← e1, ← e2] at h3
  rw [h3, nI_toInt (Nat.lt_of_le_of_lt (Nat.mod_le _ _) l1)]
  rw [Int.natCast_emod, Int.toNat_of_nonneg h1, Int.toNat_of_nonneg (Int.le_of_lt h2)]
def zx_isc (e : zx_L) : Bool := match e.1 with
  | [] => true
  | _ :: _ => false
theorem zx_isc_ev {ρ : List Int} {e : zx_L} {v : Int} (h : zx_isc e = true) (hv : zx_ev ρ e = some v) : v = e.2 := by
  obtain ⟨u, h1, h2⟩ := zx_ev_iff.mp hv
  rcases e with ⟨l, k⟩
  cases l with
  | nil => cases h1; rw [h2]; simp
  | cons _ _ => cases h
def zx_mul (G : zx_G) (e f : zx_L) : Option (zx_G × zx_V) :=
  if zx_isc e = true then zx_val G (zx_scale e.2 f) else if zx_isc f = true then zx_val G (zx_scale f.2 e) else some (zx_full G)
def zx_div (G : zx_G) (e f : zx_L) : Option (zx_G × zx_V) := match zx_rng G e with
  | none => none
  | some t => if zx_isc f = true && decide (0 < f.2) && decide (0 ≤ t.1) then (if zx_isc e = true then some (G, .inl ([], e.2 / f.2)) else some (zx_fr G (t.1 / f.2) (t.2 / f.2))) else none
def zx_rem (G : zx_G) (e f : zx_L) : Option (zx_G × zx_V) := match zx_rng G e with
  | none => none
  | some t => if zx_isc f = true && decide (0 < f.2) && decide (0 ≤ t.1) then (if zx_isc e = true then some (G, .inl ([], e.2 % f.2)) else some (zx_fr G 0 (f.2 - 1))) else none
def zx_and (G : zx_G) (e f : zx_L) : Option (zx_G × zx_V) :=
  if zx_isc f = true && decide (f.2 = 255 ∨ f.2 = 31 ∨ f.2 = 1 ∨ f.2 = 15) then some (zx_fr G 0 f.2) else some (zx_full G)
section ZXA
variable {b : Nat} {ex : List Nat} {ρ : List Int} {ad : List Nat} {G : zx_G} {e f : zx_L} {x y : Int32} {r : zx_G × zx_V}
theorem zx_mul_ok (hG : zx_ok ρ G) (hx : zx_ev ρ e = some x.toInt) (hy : zx_ev ρ f = some y.toInt) (h : zx_mul G e f = some r) : zx_P b ex ρ ad r (.int (x * y)) := by
  rw [zx_mul] at h
  split at h
  · rename_i hc
    have h1 := zx_isc_ev hc hx
    refine zx_val_ok hG h (zx_scale_ev e.2 hy) (fun g1 g2 => ?_)
    rw [← h1] at g1 g2 ⊢
    exact zx_mulI x y g1 g2
  · split at h
    · rename_i hc
      have h1 := zx_isc_ev hc hy
      refine zx_val_ok hG h (zx_scale_ev f.2 hx) (fun g1 g2 => ?_)
      rw [← h1, Int.mul_comm] at g1 g2 ⊢
      exact zx_mulI x y g1 g2
    · cases h; exact zx_full_ok hG
theorem zx_div_ok (hG : zx_ok ρ G) (hx : zx_ev ρ e = some x.toInt) (hy : zx_ev ρ f = some y.toInt) (h : zx_div G e f = some r) : ¬ y = 0 ∧ zx_P b ex ρ ad r (.int (x / y)) := by
  rw [zx_div] at h
  split at h
  · cases h
  · rename_i t ht
    split at h
    · rename_i hc
      simp only [Bool.and_eq_true, decide_eq_true_iff] at hc
      obtain ⟨⟨h1, h2⟩, h3⟩ := hc
      have k := zx_isc_ev h1 hy
      obtain ⟨g1, g2⟩ := zx_rng_ok hG ht hx
      have hx0 : 0 ≤ x.toInt := by omega
      have hy0 : 0 < y.toInt := by omega
      refine ⟨fun q => by rw [q] at hy0; exact absurd hy0 (by decide), ?_⟩
      split at h
      · rename_i h4
        cases h
        refine zx_same_ok hG ?_
        rw [zx_divI hx0 hy0, k, zx_isc_ev h4 hx]
        exact zx_ev_iff.mpr ⟨0, rfl, by simp⟩
      · cases h
        rw [← k]
        exact zx_fr_ok hG (by rw [zx_divI hx0 hy0]; exact Int.ediv_le_ediv hy0 g1) (by rw [zx_divI hx0 hy0]; exact Int.ediv_le_ediv hy0 g2)
    · cases h
theorem zx_rem_ok (hG : zx_ok ρ G) (hx : zx_ev ρ e = some x.toInt) (hy : zx_ev ρ f = some y.toInt) (h : zx_rem G e f = some r) : ¬ y = 0 ∧ zx_P b ex ρ ad r (.int (x - x / y * y)) := by
  rw [zx_rem] at h
  split at h
  · cases h
  · rename_i t ht
    split at h
    · rename_i hc
      simp only [Bool.and_eq_true, decide_eq_true_iff] at hc
      obtain ⟨⟨h1, h2⟩, h3⟩ := hc
      have k := zx_isc_ev h1 hy
      obtain ⟨g1, g2⟩ := zx_rng_ok hG ht hx
      have hx0 : 0 ≤ x.toInt := by omega
      have hy0 : 0 < y.toInt := by omega
      refine ⟨fun q => by rw [q] at hy0; exact absurd hy0 (by decide), ?_⟩
      split at h
      · rename_i h4
        cases h
        refine zx_same_ok hG ?_
        rw [zx_remI hx0 hy0, k, zx_isc_ev h4 hx]
        exact zx_ev_iff.mpr ⟨0, rfl, by simp⟩
      · cases h
        rw [← k]
        exact zx_fr_ok hG (by rw [zx_remI hx0 hy0]; exact Int.emod_nonneg _ (by omega)) (by rw [zx_remI hx0 hy0]; have := Int.emod_lt_of_pos x.toInt hy0; omega)
    · cases h
theorem zx_andB (x m : Int32) (k : Nat) (hk : k ≤ 30) (hm : m.toBitVec.toNat = 2 ^ k - 1) : 0 ≤ (x &&& m).toInt ∧ (x &&& m).toInt ≤ 2 ^ k - 1 := by
  obtain ⟨j, h1, h2⟩ := pk_andE x k hm
  have h3 : 2 ^ k ≤ 2 ^ 30 := Nat.pow_le_pow_right (by decide) hk
  rw [h2, nI_toInt (by omega)]
  have h4 : ((2 ^ k : Nat) : Int) = (2 : Int) ^ k := by push_cast; rfl
  omega
theorem zx_and_ok (hG : zx_ok ρ G) (hy : zx_ev ρ f = some y.toInt) (h : zx_and G e f = some r) : zx_P b ex ρ ad r (.int (x &&& y)) := by
  rw [zx_and] at h
  split at h
  · rename_i hc
    simp only [Bool.and_eq_true, decide_eq_true_iff] at hc
    obtain ⟨h1, h2⟩ := hc
    have k := zx_isc_ev h1 hy
    cases h
    rw [← k] at h2 ⊢
    rcases h2 with q | q | q | q
    · have hy2 : y = 255 := Int32.toInt_inj.mp q
      subst hy2
      have h3 := zx_andB x 255 8 (by decide) (by decide)
      exact zx_fr_ok hG h3.1 h3.2
    · have hy2 : y = 31 := Int32.toInt_inj.mp q
      subst hy2
      have h3 := zx_andB x 31 5 (by decide) (by decide)
      exact zx_fr_ok hG h3.1 h3.2
    · have hy2 : y = 1 := Int32.toInt_inj.mp q
      subst hy2
      have h3 := zx_andB x 1 1 (by decide) (by decide)
      exact zx_fr_ok hG h3.1 h3.2
    · have hy2 : y = 15 := Int32.toInt_inj.mp q
      subst hy2
      have h3 := zx_andB x 15 4 (by decide) (by decide)
      exact zx_fr_ok hG h3.1 h3.2
  · cases h; exact zx_full_ok hG
end ZXA
/-! comparisons -/
/-- it is known that d ≤ k -/
def zx_le (G : zx_G) (d : zx_L) (k : Int) : zx_G := match d.1 with
  | [q] => match G[q.1]? with
    | none => G
    | some b => if q.2 = 1 then (if k - d.2 < b.2 then G.set q.1 (b.1, k - d.2) else G) else if q.2 = -1 then (if b.1 < d.2 - k then G.set q.1 (d.2 - k, b.2) else G) else G
  | _ => G
theorem zx_ev1 {ρ : List Int} {q : Nat × Int} {c v : Int} (h : zx_ev ρ ([q], c) = some v) : ∃ u, ρ[q.1]? = some u ∧ v = q.2 * u + c := by
  obtain ⟨u, h1, h2⟩ := zx_ev_iff.mp h
  obtain ⟨v1, u1, g1, g2, g3⟩ := zx_evl_cons.mp h1
  cases g2
  exact ⟨v1, g1, by rw [h2, g3]; simp⟩
theorem zx_le_ok {ρ : List Int} {G : zx_G} (hG : zx_ok ρ G) {d : zx_L} {v k : Int} (hv : zx_ev ρ d = some v) (h : v ≤ k) : zx_ok ρ (zx_le G d k) := by
  rcases d with ⟨l, c⟩
  rw [zx_le]
  split
  · rename_i q hq
    have hq : l = [q] := hq
    subst hq
    obtain ⟨u, h1, h2⟩ := zx_ev1 hv
    split
    · exact hG
    · rename_i b hb
      obtain ⟨g1, g2⟩ := hG.2 _ _ _ h1 hb
      split
      · rename_i hc
        split
        · refine zx_ok_set hG fun v' hv' => ?_
          rw [h1] at hv'; cases hv'
          rw [hc] at h2
          exact ⟨g1, by show u ≤ k - c; omega⟩
        · exact hG
      · split
        · rename_i hc
          split
          · refine zx_ok_set hG fun v' hv' => ?_
            rw [h1] at hv'; cases hv'
            rw [hc] at h2
            exact ⟨by show c - k ≤ u; omega, g2⟩
          · exact hG
        · exact hG
  · exact hG
def zx_ge (G : zx_G) (d : zx_L) (k : Int) : zx_G := match d.1 with
  | [q] => match G[q.1]? with
    | none => G
    | some b => if q.2 = 1 then (if b.1 < k - d.2 then G.set q.1 (k - d.2, b.2) else G) else if q.2 = -1 then (if d.2 - k < b.2 then G.set q.1 (b.1, d.2 - k) else G) else G
  | _ => G
theorem zx_ge_ok {ρ : List Int} {G : zx_G} (hG : zx_ok ρ G) {d : zx_L} {v k : Int} (hv : zx_ev ρ d = some v) (h : k ≤ v) : zx_ok ρ (zx_ge G d k) := by
  rcases d with ⟨l, c⟩
  rw [zx_ge]
  split
  · rename_i q hq
    have hq : l = [q] := hq
    subst hq
    obtain ⟨u, h1, h2⟩ := zx_ev1 hv
    split
    · exact hG
    · rename_i b hb
      obtain ⟨g1, g2⟩ := hG.2 _ _ _ h1 hb
      split
      · rename_i hc
        split
        · refine zx_ok_set hG fun v' hv' => ?_
          rw [h1] at hv'; cases hv'
          rw [hc] at h2
          exact ⟨by show k - c ≤ u; omega, g2⟩
        · exact hG
      · split
        · rename_i hc
          split
          · refine zx_ok_set hG fun v' hv' => ?_
            rw [h1] at hv'; cases hv'
            rw [hc] at h2
            exact ⟨g1, by show u ≤ c - k; omega⟩
          · exact hG
        · exact hG
  · exact hG
/-- the ways a comparison of d with 0 can go, each with what is known behind it -/
def zx_lt0 (w : Bool) (G : zx_G) (d : zx_L) (t : Int × Int) : List (Bool × zx_G) :=
  (if t.1 < 0 then [(w, zx_le G d (-1))] else []) ++ (if 0 ≤ t.2 then [(!w, zx_ge G d 0)] else [])
def zx_gt0 (w : Bool) (G : zx_G) (d : zx_L) (t : Int × Int) : List (Bool × zx_G) :=
  (if 0 < t.2 then [(w, zx_ge G d 1)] else []) ++ (if t.1 ≤ 0 then [(!w, zx_le G d 0)] else [])
def zx_eq0 (w : Bool) (G : zx_G) (d : zx_L) (t : Int × Int) : List (Bool × zx_G) :=
  (if t.1 ≤ 0 ∧ 0 ≤ t.2 then [(w, zx_ge (zx_le G d 0) d 0)] else []) ++ (if t.1 = 0 ∧ t.2 = 0 then [] else [(!w, if t.1 = 0 then zx_ge G d 1 else if t.2 = 0 then zx_le G d (-1) else G)])
def zx_cmp (c : ClassFile.Cond) (G : zx_G) (d : zx_L) (t : Int × Int) : List (Bool × zx_G) := match c with
  | .eq => zx_eq0 true G d t
  | .ne => zx_eq0 false G d t
  | .lt => zx_lt0 true G d t
  | .ge => zx_lt0 false G d t
  | .gt => zx_gt0 true G d t
  | .le => zx_gt0 false G d t
def zx_holds (c : ClassFile.Cond) (v : Int) : Prop := match c with
  | .eq => v = 0
  | .ne => ¬ v = 0
  | .lt => v < 0
  | .ge => 0 ≤ v
  | .gt => 0 < v
  | .le => v ≤ 0
theorem zx_lt0_ok {ρ : List Int} {G : zx_G} (hG : zx_ok ρ G) {d : zx_L} {v : Int} {t : Int × Int} (hv : zx_ev ρ d = some v) (ht : t.1 ≤ v ∧ v ≤ t.2) (w : Bool) : (v < 0 → ∃ G', (w, G') ∈ zx_lt0 w G d t ∧ zx_ok ρ G') ∧ (0 ≤ v → ∃ G', (!w, G') ∈ zx_lt0 w G d t ∧ zx_ok ρ G') := by
  refine ⟨fun h => ⟨_, List.mem_append_left _ ?_, zx_le_ok hG hv (k := -1) (by omega)⟩, fun h => ⟨_, List.mem_append_right _ ?_, zx_ge_ok hG hv (k := 0) h⟩⟩
  · rw [if_pos (by omega)]; exact List.mem_singleton.mpr rfl
  · rw [if_pos (by omega)]; exact List.mem_singleton.mpr rfl
theorem zx_gt0_ok {ρ : List Int} {G : zx_G} (hG : zx_ok ρ G) {d : zx_L} {v : Int} {t : Int × Int} (hv : zx_ev ρ d = some v) (ht : t.1 ≤ v ∧ v ≤ t.2) (w : Bool) : (0 < v → ∃ G', (w, G') ∈ zx_gt0 w G d t ∧ zx_ok ρ G') ∧ (v ≤ 0 → ∃ G', (!w, G') ∈ zx_gt0 w G d t ∧ zx_ok ρ G') := by
  refine ⟨fun h => ⟨_, List.mem_append_left _ ?_, zx_ge_ok hG hv (k := 1) (by omega)⟩, fun h => ⟨_, List.mem_append_right _ ?_, zx_le_ok hG hv (k := 0) h⟩⟩
  · rw [if_pos (by omega)]; exact List.mem_singleton.mpr rfl
  · rw [if_pos (by omega)]; exact List.mem_singleton.mpr rfl
theorem zx_eq0_ok {ρ : List Int} {G : zx_G} (hG : zx_ok ρ G) {d : zx_L} {v : Int} {t : Int × Int} (hv : zx_ev ρ d = some v) (ht : t.1 ≤ v ∧ v ≤ t.2) (w : Bool) : (v = 0 → ∃ G', (w, G') ∈ zx_eq0 w G d t ∧ zx_ok ρ G') ∧ (¬ v = 0 → ∃ G', (!w, G') ∈ zx_eq0 w G d t ∧ zx_ok ρ G') := by
  refine ⟨fun h => ⟨zx_ge (zx_le G d 0) d 0, List.mem_append_left _ ?_, zx_ge_ok (zx_le_ok hG hv (k := 0) (by omega)) hv (k := 0) (by omega)⟩, fun h => ⟨if t.1 = 0 then zx_ge G d 1 else if t.2 = 0 then zx_le G d (-1) else G, List.mem_append_right _ ?_, ?_⟩⟩
  · rw [if_pos (by omega)]; exact List.mem_singleton.mpr rfl
  · rw [if_neg (by omega)]; exact List.mem_singleton.mpr rfl
  · split
    · exact zx_ge_ok hG hv (by omega)
    · split
      · exact zx_le_ok hG hv (by omega)
      · exact hG
theorem zx_cmp_ok {ρ : List Int} {G : zx_G} (hG : zx_ok ρ G) {d : zx_L} {v : Int} {t : Int × Int} (hv : zx_ev ρ d = some v) (ht : zx_rng G d = some t) (c : ClassFile.Cond) : (zx_holds c v → ∃ G', (true, G') ∈ zx_cmp c G d t ∧ zx_ok ρ G') ∧ (¬ zx_holds c v → ∃ G', (false, G') ∈ zx_cmp c G d t ∧ zx_ok ρ G') := by
  have hr := zx_rng_ok hG ht hv
  cases c with
  | eq => exact zx_eq0_ok hG hv hr true
  | ne => exact ⟨(zx_eq0_ok hG hv hr false).2, fun h => (zx_eq0_ok hG hv hr false).1 (Decidable.not_not.mp h)⟩
  | lt => exact ⟨(zx_lt0_ok hG hv hr true).1, fun h => (zx_lt0_ok hG hv hr true).2 (Int.not_lt.mp h)⟩
  | ge => exact ⟨(zx_lt0_ok hG hv hr false).2, fun h => (zx_lt0_ok hG hv hr false).1 (Int.not_le.mp h)⟩
  | gt => exact ⟨(zx_gt0_ok hG hv hr true).1, fun h => (zx_gt0_ok hG hv hr true).2 (Int.not_lt.mp h)⟩
  | le => exact ⟨(zx_gt0_ok hG hv hr false).2, fun h => (zx_gt0_ok hG hv hr false).1 (Int.not_le.mp h)⟩
/-- an unknown is taken apart into its numbers, if they are few -/
def zx_cuts (G : zx_G) (x : Nat) (lo : Int) : Nat → List zx_G
  | 0 => []
  | n + 1 => G.set x (lo, lo) :: zx_cuts G x (lo + 1) n
theorem zx_cuts_ok {ρ : List Int} {G : zx_G} (hG : zx_ok ρ G) {x : Nat} {v : Int} (hv : ρ[x]? = some v) : ∀ (n : Nat) (lo : Int), lo ≤ v → v < lo + n → ∃ G' ∈ zx_cuts G x lo n, zx_ok ρ G'
  | 0, lo, h1, h2 => absurd h2 (by omega)
  | n + 1, lo, h1, h2 => by
    rw [zx_cuts]
    by_cases h : v = lo
    · exact ⟨_, List.mem_cons_self, zx_ok_set hG fun v' hv' => by rw [hv] at hv'; cases hv'; exact ⟨h1, by show v ≤ lo; omega⟩⟩
    · obtain ⟨G', h3, h4⟩ := zx_cuts_ok hG hv n (lo + 1) (by omega) (by omega)
      exact ⟨G', List.mem_cons_of_mem _ h3, h4⟩
def zx_split (G : zx_G) (e : zx_L) : Option (List zx_G) := match e.1 with
  | [] => some [G]
  | [q] => match G[q.1]? with
    | none => none
    | some b => if b.2 - b.1 ≤ 64 then some (zx_cuts G q.1 b.1 (b.2 - b.1 + 1).toNat) else none
  | _ => none
theorem zx_split_ok {ρ : List Int} {G : zx_G} (hG : zx_ok ρ G) {e : zx_L} {v : Int} (hv : zx_ev ρ e = some v) {l : List zx_G} (h : zx_split G e = some l) : ∃ G' ∈ l, zx_ok ρ G' := by
  rcases e with ⟨m, c⟩
  rw [zx_split] at h
  split at h
  · cases h; exact ⟨G, List.mem_singleton.mpr rfl, hG⟩
  · rename_i q hq
    have hq : m = [q] := hq
    subst hq
    obtain ⟨u, h1, h2⟩ := zx_ev1 hv
    split at h
    · cases h
    · rename_i b hb
      obtain ⟨g1, g2⟩ := hG.2 _ _ _ h1 hb
      split at h
      · cases h
        exact zx_cuts_ok hG h1 _ _ g1 (by omega)
      · cases h
  · cases h
/-- the ways of a switch: below, above, each number between -/
def zx_tmid (G : zx_G) (x : zx_L) (v : Int) : Nat → List zx_G
  | 0 => []
  | n + 1 => zx_ge (zx_le G x v) x v :: zx_tmid G x (v + 1) n
theorem zx_tmid_ok {ρ : List Int} {G : zx_G} (hG : zx_ok ρ G) {x : zx_L} {w : Int} (hw : zx_ev ρ x = some w) : ∀ (n : Nat) (v : Int), v ≤ w → w < v + n → ∃ G' ∈ zx_tmid G x v n, zx_ok ρ G'
  | 0, v, h1, h2 => absurd h2 (by omega)
  | n + 1, v, h1, h2 => by
    rw [zx_tmid]
    by_cases h : w = v
    · exact ⟨_, List.mem_cons_self, zx_ge_ok (zx_le_ok hG hw (by omega)) hw (by omega)⟩
    · obtain ⟨G', h3, h4⟩ := zx_tmid_ok hG hw n (v + 1) (by omega) (by omega)
      exact ⟨G', List.mem_cons_of_mem _ h3, h4⟩
def zx_tcuts (G : zx_G) (x : zx_L) (t : Int × Int) (lo hi : Int) : List zx_G :=
  (if t.1 < lo then [zx_le G x (lo - 1)] else []) ++ ((if hi < t.2 then [zx_ge G x (hi + 1)] else []) ++ (let a := if lo < t.1 then t.1 else lo; let b := if t.2 < hi then t.2 else hi; zx_tmid G x a (b - a + 1).toNat))
theorem zx_tcuts_ok {ρ : List Int} {G : zx_G} (hG : zx_ok ρ G) {x : zx_L} {w : Int} {t : Int × Int} {lo hi : Int} (hw : zx_ev ρ x = some w) (ht : t.1 ≤ w ∧ w ≤ t.2) : ∃ G' ∈ zx_tcuts G x t lo hi, zx_ok ρ G' := by
  unfold zx_tcuts
  by_cases h1 : w < lo
  · exact ⟨_, List.mem_append_left _ (by rw [if_pos (by omega)]; exact List.mem_singleton.mpr rfl), zx_le_ok hG hw (by omega)⟩
  · by_cases h2 : hi < w
    · exact ⟨_, List.mem_append_right _ (List.mem_append_left _ (by rw [if_pos (by omega)]; exact List.mem_singleton.mpr rfl)), zx_ge_ok hG hw (by omega)⟩
    · obtain ⟨G', h3, h4⟩ := zx_tmid_ok hG hw ((if t.2 < hi then t.2 else hi) - (if lo < t.1 then t.1 else lo) + 1).toNat (if lo < t.1 then t.1 else lo) (by split <;> omega) (by split <;> split <;> omega)
      exact ⟨G', List.mem_append_right _ (List.mem_append_right _ h3), h4⟩
/-- every one of a list gives its ways; all of them -/
def zx_all {α β : Type} (f : α → Option (List β)) : List α → Option (List β)
  | [] => some []
  | a :: t => match f a, zx_all f t with
    | some x, some y => some (x ++ y)
    | some _, none => none
    | none, _ => none
theorem zx_all_ok {α β : Type} {f : α → Option (List β)} : ∀ {l : List α} {r : List β} {a : α}, zx_all f l = some r → a ∈ l → ∃ x, f a = some x ∧ ∀ q ∈ x, q ∈ r
  | [], _, _, _, h => nomatch h
  | a0 :: t, r, a, h, ha => by
    rw [zx_all] at h
    split at h
    · rename_i x y hx hy
      cases h
      rcases List.mem_cons.mp ha with e | e
      · subst e; exact ⟨x, hx, fun q hq => List.mem_append_left _ hq⟩
      · obtain ⟨x', h1, h2⟩ := zx_all_ok hy e
        exact ⟨x', h1, fun q hq => List.mem_append_right _ (h2 q hq)⟩
    · cases h
    · cases h
end
section
/-! zx: what is known of a state, and what of it stays -/
def zx_RS (b : Nat) (ex : List Nat) (ρ : List Int) (ad : List Nat) (t : zx_S) (x : Value) : Prop := match t with
  | .inl v => zx_R b ex ρ ad v x
  | .inr q => ∃ w : Int32, x = .int w ∧ q.1 ≤ w.toInt ∧ w.toInt ≤ q.2
theorem zx_RS_app {b : Nat} {ex : List Nat} {ρ r : List Int} {ad q : List Nat} {t : zx_S} {x : Value} (h : zx_RS b ex ρ ad t x) : zx_RS b ex (ρ ++ r) (ad ++ q) t x := by
  rcases t with v | k
  · exact zx_R_app (v := v) h
  · exact h
def zx_RA (b : Nat) (ex : List Nat) (ρ : List Int) (ad : List Nat) (n : Nat) (sm : Bool) (l : List zx_S) (el : Nat → Value) : Prop := match sm with
  | true => ∃ t, l = [t] ∧ ∀ j, j < n → zx_RS b ex ρ ad t (el j)
  | false => l.length = n ∧ ∀ (j : Nat) (t : zx_S), l[j]? = some t → zx_RS b ex ρ ad t (el j)
theorem zx_RA_app {b : Nat} {ex : List Nat} {ρ r : List Int} {ad q : List Nat} {n : Nat} {sm : Bool} {l : List zx_S} {el : Nat → Value} (h : zx_RA b ex ρ ad n sm l el) : zx_RA b ex (ρ ++ r) (ad ++ q) n sm l el := by
  cases sm with
  | true =>
    obtain ⟨t, h1, h2⟩ := h
    exact ⟨t, h1, fun j hj => zx_RS_app (h2 j hj)⟩
  | false => exact ⟨h.1, fun j t ht => zx_RS_app (h.2 j t ht)⟩
def zx_ty (cl : List vw_C) (t : Nat) : FieldType := match t with
  | 0 => .int
  | 1 => .byte
  | 2 => .boolean
  | k + 3 => .object ((cl[k]?.map (fun q => q.1)).getD "")
def zx_RC (cl : List vw_C) (b : Nat) (ex : List Nat) (ρ : List Int) (ad : List Nat) (tys : List (ClassId × FieldType)) (c : zx_C) (e : va_E) : Prop := match c with
  | .inl o => ∃ fs, e = .inr (o.1, fs) ∧ zx_F2 (zx_RS b ex ρ ad) o.2 fs
  | .inr (.inl q) => ∃ (cA : ClassId) (t0 : Nat), tys[t0]? = some (cA, zx_ty cl q.1) ∧
      ((q.1 < 3 ∧ ∃ f : Nat → Int32, e = .inl (cA, q.2.1, .inl f) ∧ zx_RA b ex ρ ad q.2.1 q.2.2.1 q.2.2.2 (fun j => .int (f j))) ∨
       (3 ≤ q.1 ∧ ∃ f : Nat → Option Nat, e = .inl (cA, q.2.1, .inr (.inr (.inr (.inr f)))) ∧ zx_RA b ex ρ ad q.2.1 q.2.2.1 q.2.2.2 (fun j => va_rf (f j))))
  | .inr (.inr n) => ∃ (cA : ClassId) (t0 : Nat) (f : Nat → Int64), tys[t0]? = some (cA, .long) ∧ e = .inl (cA, n, .inr (.inl f))
theorem zx_tys_app {tys q : List (ClassId × FieldType)} {k : Nat} {x : ClassId × FieldType} (h : tys[k]? = some x) : (tys ++ q)[k]? = some x := by
  rw [List.getElem?_append_left (List.getElem?_eq_some_iff.mp h).1]; exact h
theorem zx_RC_app {cl : List vw_C} {b : Nat} {ex : List Nat} {ρ r : List Int} {ad q : List Nat} {tys ty : List (ClassId × FieldType)} {c : zx_C} {e : va_E} (h : zx_RC cl b ex ρ ad tys c e) : zx_RC cl b ex (ρ ++ r) (ad ++ q) (tys ++ ty) c e := by
  rcases c with o | k | n
  · obtain ⟨fs, h1, h2⟩ := h
    exact ⟨fs, h1, zx_F2_imp (fun _ _ => zx_RS_app) h2⟩
  · obtain ⟨cA, t0, h1, h2⟩ := h
    refine ⟨cA, t0, zx_tys_app h1, ?_⟩
    rcases h2 with ⟨h2, f, h3, h4⟩ | ⟨h2, f, h3, h4⟩
    · exact Or.inl ⟨h2, f, h3, zx_RA_app h4⟩
    · exact Or.inr ⟨h2, f, h3, zx_RA_app h4⟩
  · obtain ⟨cA, t0, f, h1, h2⟩ := h
    exact ⟨cA, t0, f, zx_tys_app h1, h2⟩
/-- unknowns; cells; locals; stack; how many cells and slots are new -/
abbrev zx_T : Type := zx_G × (List zx_C × (List (Nat × zx_V) × (List zx_V × (Nat × Nat))))
abbrev zx_as (ws : va_W) : List Nat := ws.map Prod.fst
/-- all but the bounds -/
def zx_B (D : va_G) (cl : List vw_C) (A : Nat → Prop) (b : Nat) (ex ad0 : List Nat) (nL : Nat) (s : State) (ρ : List Int) (h : List zx_C) (lv : List (Nat × zx_V)) (sk : List zx_V) (H : Heap) (locs : List Loc) (ls : Array Slot) (kc : List Value) (tys : List (ClassId × FieldType)) (ws : va_W) (lc : List (Nat × Value)) : Prop :=
  va_K D cl tys s ∧ va_P D cl ws H ∧ va_D A ws ∧ (va_S A s.heap H locs ∧ ∃ xt, zx_as ws = ad0 ++ xt) ∧ zx_F2 (fun c q => zx_RC cl b ex ρ (zx_as ws) tys c q.2) h ws ∧ zx_F2 (fun x y => x.1 = y.1 ∧ zx_R b ex ρ (zx_as ws) x.2 y.2) lv lc ∧ lv_has ls nL lc ∧ zx_F2 (zx_R b ex ρ (zx_as ws)) sk kc
def zx_J (D : va_G) (cl : List vw_C) (A : Nat → Prop) (b : Nat) (ex ad0 : List Nat) (nL : Nat) (s : State) (ρ : List Int) (G : zx_G) (h : List zx_C) (lv : List (Nat × zx_V)) (sk : List zx_V) (H : Heap) (locs : List Loc) (ls : Array Slot) (kc : List Value) : Prop :=
  zx_ok ρ G ∧ ∃ (tys : List (ClassId × FieldType)) (ws : va_W) (lc : List (Nat × Value)), zx_B D cl A b ex ad0 nL s ρ h lv sk H locs ls kc tys ws lc
section ZXB
variable {D : va_G} {cl : List vw_C} {A : Nat → Prop} {b : Nat} {ex ad0 : List Nat} {nL : Nat} {s : State} {ρ : List Int} {G : zx_G} {h : List zx_C} {lv : List (Nat × zx_V)} {sk : List zx_V} {H : Heap} {locs : List Loc} {ls : Array Slot} {kc : List Value} {tys : List (ClassId × FieldType)} {ws : va_W} {lc : List (Nat × Value)}
theorem zx_RC_up {r : List Int} {ad : List Nat} {c : zx_C} {e : va_E} (h : zx_RC cl b ex ρ ad tys c e) : zx_RC cl b ex (ρ ++ r) ad tys c e := by
  have h1 := zx_RC_app (r := r) (q := []) (ty := []) h
  rwa [List.append_nil, List.append_nil] at h1
theorem zx_B_up {r : List Int} (B : zx_B D cl A b ex ad0 nL s ρ h lv sk H locs ls kc tys ws lc) : zx_B D cl A b ex ad0 nL s (ρ ++ r) h lv sk H locs ls kc tys ws lc := by
  obtain ⟨h1, h2, h3, h4, h5, h6, h7, h8⟩ := B
  exact ⟨h1, h2, h3, h4, zx_F2_imp (fun _ _ q => zx_RC_up q) h5, zx_F2_imp (fun _ _ q => ⟨q.1, zx_R_up q.2⟩) h6, h7, zx_F2_imp (fun _ _ q => zx_R_up q) h8⟩
theorem zx_B_sk {sk' : List zx_V} {kc' : List Value} (B : zx_B D cl A b ex ad0 nL s ρ h lv sk H locs ls kc tys ws lc) (h8 : zx_F2 (zx_R b ex ρ (zx_as ws)) sk' kc') : zx_B D cl A b ex ad0 nL s ρ h lv sk' H locs ls kc' tys ws lc := by
  obtain ⟨h1, h2, h3, h4, h5, h6, h7, -⟩ := B
  exact ⟨h1, h2, h3, h4, h5, h6, h7, h8⟩
/-- a result on the stack -/
theorem zx_J_res {r : zx_G × zx_V} {x : Value} (B : zx_B D cl A b ex ad0 nL s ρ h lv sk H locs ls kc tys ws lc) (hr : zx_P b ex ρ (zx_as ws) r x) : ∃ r2, zx_J D cl A b ex ad0 nL s (ρ ++ r2) r.1 h lv (r.2 :: sk) H locs ls (x :: kc) := by
  obtain ⟨r2, h1, h2⟩ := hr
  have B2 := zx_B_up (r := r2) B
  exact ⟨r2, h1, tys, ws, lc, zx_B_sk B2 ⟨h2, B2.2.2.2.2.2.2.2⟩⟩
theorem zx_J_same (hG : zx_ok ρ G) (B : zx_B D cl A b ex ad0 nL s ρ h lv sk H locs ls kc tys ws lc) : zx_J D cl A b ex ad0 nL s (ρ ++ []) G h lv sk H locs ls kc := by
  rw [List.append_nil]; exact ⟨hG, tys, ws, lc, B⟩
end ZXB
/-- a local -/
def zx_lk : List (Nat × zx_V) → Nat → Option zx_V
  | [], _ => none
  | q :: r, i => if q.1 = i then some q.2 else zx_lk r i
theorem zx_lk_ok {R : zx_V → Value → Prop} {i : Nat} {v : zx_V} : ∀ {lv : List (Nat × zx_V)} {lc : List (Nat × Value)}, zx_F2 (fun x y => x.1 = y.1 ∧ R x.2 y.2) lv lc → zx_lk lv i = some v → ∃ (x : Value) (k : Nat), lc[k]? = some (i, x) ∧ R v x
  | [], _, _, h => nomatch h
  | q :: r, [], h, _ => h.elim
  | q :: r, y :: m, h, hk => by
    rw [zx_lk] at hk
    by_cases hq : q.1 = i
    · rw [if_pos hq] at hk
      cases hk
      refine ⟨y.2, 0, ?_, h.1.2⟩
      show some y = _
      rw [← hq, h.1.1]
    · rw [if_neg hq] at hk
      obtain ⟨x, k, h1, h2⟩ := zx_lk_ok h.2 hk
      exact ⟨x, k + 1, by simpa using h1, h2⟩
/-- a local anew: of one word, of two -/
def zx_st1 (lv : List (Nat × zx_V)) (i : Nat) (v : zx_V) : List (Nat × zx_V) := (i, v) :: lv.filter (fun q => !(q.1 == i) && !(q.1 + 1 == i && zx_cat q.2 == 2))
def zx_st2 (lv : List (Nat × zx_V)) (i : Nat) (v : zx_V) : List (Nat × zx_V) := (i, v) :: lv.filter (fun q => !(q.1 == i) && (!(q.1 == i + 1) && !(q.1 + 1 == i && zx_cat q.2 == 2)))
theorem zx_st1_ok {b : Nat} {ex : List Nat} {ρ : List Int} {ad : List Nat} {lv : List (Nat × zx_V)} {lc : List (Nat × Value)} {i : Nat} {v : zx_V} {x : Value} (h : zx_F2 (fun x y => x.1 = y.1 ∧ zx_R b ex ρ ad x.2 y.2) lv lc) (hv : zx_R b ex ρ ad v x) : zx_F2 (fun x y => x.1 = y.1 ∧ zx_R b ex ρ ad x.2 y.2) (zx_st1 lv i v) ((i, x) :: lc.filter (fun q => !(q.1 == i) && !(q.1 + 1 == i && q.2.category == 2))) :=
  ⟨⟨rfl, hv⟩, zx_F2_filter (fun p q hpq => by rw [hpq.1, zx_R_cat hpq.2]) h⟩
theorem zx_st2_ok {b : Nat} {ex : List Nat} {ρ : List Int} {ad : List Nat} {lv : List (Nat × zx_V)} {lc : List (Nat × Value)} {i : Nat} {v : zx_V} {x : Value} (h : zx_F2 (fun x y => x.1 = y.1 ∧ zx_R b ex ρ ad x.2 y.2) lv lc) (hv : zx_R b ex ρ ad v x) : zx_F2 (fun x y => x.1 = y.1 ∧ zx_R b ex ρ ad x.2 y.2) (zx_st2 lv i v) ((i, x) :: lc.filter (fun q => !(q.1 == i) && (!(q.1 == i + 1) && !(q.1 + 1 == i && q.2.category == 2)))) :=
  ⟨⟨rfl, hv⟩, zx_F2_filter (fun p q hpq => by rw [hpq.1, zx_R_cat hpq.2]) h⟩
end
section
/-! zx: one instruction -/
/-- the tables that go with a method: fields (class, place, sort, final), statics, classes, whole numbers, longs, what a new row holds (as one, from .. to); the locals; <init>; the room; a script -/
abbrev zx_M : Type := (Nat → Option (Nat × Nat × Nat × Bool)) × ((Nat → Option Nat) × ((Nat → Option Nat) × ((Nat → Option Int) × ((Nat → Bool) × ((Nat → Option (Bool × Int × Int)) × (Nat × (Bool × ((Nat × Nat) × Bool))))))))
abbrev zx_mF (M : zx_M) := M.1
abbrev zx_mS (M : zx_M) := M.2.1
abbrev zx_mC (M : zx_M) := M.2.2.1
abbrev zx_mI (M : zx_M) := M.2.2.2.1
abbrev zx_mL (M : zx_M) := M.2.2.2.2.1
abbrev zx_mN (M : zx_M) := M.2.2.2.2.2.1
abbrev zx_mV (M : zx_M) := M.2.2.2.2.2.2.1
abbrev zx_mB (M : zx_M) := M.2.2.2.2.2.2.2.1
abbrev zx_mR (M : zx_M) := M.2.2.2.2.2.2.2.2.1
abbrev zx_mX (M : zx_M) := M.2.2.2.2.2.2.2.2.2
abbrev zx_O : Type := Option (List (Nat × zx_T))
abbrev zx_lg : zx_V := .inr (.inr true)
def zx_go (pc : Nat) (h : List zx_C) (lv : List (Nat × zx_V)) (k : Nat × Nat) (sk : List zx_V) (r : Option (zx_G × zx_V)) : zx_O := match r with
  | some r => some [(pc, r.1, h, lv, r.2 :: sk, k)]
  | none => none
def zx_tg (pc : Nat) (off : Int) : Option Nat := if 0 ≤ (pc : Int) + off then some ((pc : Int) + off).toNat else none
theorem zx_tg_ok {pc t : Nat} {off : Int} (h : zx_tg pc off = some t) : (pc : Int) + off = (t : Int) := by
  rw [zx_tg] at h
  split at h
  · cases h; rw [Int.toNat_of_nonneg (by assumption)]
  · cases h
section ZXX
variable (M : zx_M) (pc : Nat) (G : zx_G) (h : List zx_C) (lv : List (Nat × zx_V)) (k : Nat × Nat) (sk : List zx_V)
def zx_xk (n lo hi : Int) (d : Nat) : zx_O := if decide (lo ≤ n) && decide (n ≤ hi) then some [(pc + d, G, h, lv, .inl ([], n) :: sk, k)] else none
def zx_xld (i d : Nat) : zx_O := match zx_lk lv i with
  | some (.inl e) => some [(pc + d, G, h, lv, .inl e :: sk, k)]
  | _ => none
def zx_xlld (i d : Nat) : zx_O := match zx_lk lv i with
  | some (.inr (.inr true)) => some [(pc + d, G, h, lv, zx_lg :: sk, k)]
  | _ => none
def zx_xald (i d : Nat) : zx_O := match zx_lk lv i with
  | some (.inr (.inl (r, false))) => some [(pc + d, G, h, lv, .inr (.inl (r, false)) :: sk, k)]
  | some (.inr (.inr false)) => some [(pc + d, G, h, lv, .inr (.inr false) :: sk, k)]
  | _ => none
def zx_xst (i d : Nat) : zx_O := match sk with
  | .inl e :: r => if i < zx_mV M then some [(pc + d, G, h, zx_st1 lv i (.inl e), r, k)] else none
  | _ => none
def zx_xlst (i d : Nat) : zx_O := match sk with
  | .inr (.inr true) :: r => if i + 1 < zx_mV M then some [(pc + d, G, h, zx_st2 lv i zx_lg, r, k)] else none
  | _ => none
def zx_xast (i d : Nat) : zx_O := match sk with
  | .inr (.inl (q, false)) :: r => if i < zx_mV M then some [(pc + d, G, h, zx_st1 lv i (.inr (.inl (q, false))), r, k)] else none
  | _ => none
def zx_xinc (i : Nat) (n : Int) : zx_O := match zx_lk lv i with
  | some (.inl e) => if decide (i < zx_mV M) && decide (-32768 ≤ n) && decide (n ≤ 32767) then (match zx_val G (zx_add e ([], n)) with
    | some r => some [(pc + 3, r.1, h, zx_st1 lv i r.2, sk, k)]
    | none => none) else none
  | _ => none
/-- two ints come off, one goes on -/
def zx_xbin (f : zx_L → zx_L → Option (zx_G × zx_V)) : zx_O := match sk with
  | .inl y :: .inl x :: r => zx_go (pc + 1) h lv k r (f x y)
  | _ => none
def zx_xi2b : zx_O := match sk with
  | .inl x :: r => (match zx_rng G x with
    | some t => zx_go (pc + 1) h lv k r (if zx_in t (-128) 127 = true then some (G, .inl x) else some (zx_fr G (-128) 127))
    | none => none)
  | _ => none
def zx_xi2l : zx_O := match sk with
  | .inl _ :: r => some [(pc + 1, G, h, lv, zx_lg :: r, k)]
  | _ => none
def zx_xl2i : zx_O := match sk with
  | .inr (.inr true) :: r => zx_go (pc + 1) h lv k r (some (zx_full G))
  | _ => none
def zx_xlbin : zx_O := match sk with
  | .inr (.inr true) :: .inr (.inr true) :: r => some [(pc + 1, G, h, lv, zx_lg :: r, k)]
  | _ => none
def zx_xlsh : zx_O := match sk with
  | .inl _ :: .inr (.inr true) :: r => some [(pc + 1, G, h, lv, zx_lg :: r, k)]
  | _ => none
def zx_xlcmp : zx_O := match sk with
  | .inr (.inr true) :: .inr (.inr true) :: r => zx_go (pc + 1) h lv k r (some (zx_full G))
  | _ => none
def zx_xdup : zx_O := match sk with
  | v :: r => if zx_cat v = 1 then some [(pc + 1, G, h, lv, v :: v :: r, k)] else none
  | _ => none
def zx_xpop : zx_O := match sk with
  | v :: r => if zx_cat v = 1 then some [(pc + 1, G, h, lv, r, k)] else none
  | _ => none
def zx_xdupx1 : zx_O := match sk with
  | v :: w :: r => if zx_cat v = 1 ∧ zx_cat w = 1 then some [(pc + 1, G, h, lv, v :: w :: v :: r, k)] else none
  | _ => none
def zx_xdup2 : zx_O := match sk with
  | v :: w :: r => if zx_cat v = 1 ∧ zx_cat w = 1 then some [(pc + 1, G, h, lv, v :: w :: v :: w :: r, k)] else none
  | _ => none
def zx_xgoto (off : Int) : zx_O := match zx_tg pc off with
  | some t => some [(t, G, h, lv, sk, k)]
  | none => none
def zx_xbr (c : ClassFile.Cond) (t : Nat) (d : zx_L) (r : List zx_V) : zx_O := match zx_rng G d with
  | some q => some ((zx_cmp c G d q).map (fun z => (if z.1 = true then t else pc + 3, z.2, h, lv, r, k)))
  | none => none
def zx_xif (c : ClassFile.Cond) (off : Int) : zx_O := match sk with
  | .inl x :: r => (match zx_tg pc off with
    | some t => zx_xbr pc G h lv k c t x r
    | none => none)
  | _ => none
def zx_xicmp (c : ClassFile.Cond) (off : Int) : zx_O := match sk with
  | .inl y :: .inl x :: r => (match zx_tg pc off with
    | some t => zx_xbr pc G h lv k c t (zx_sub x y) r
    | none => none)
  | _ => none
def zx_xtab1 (dflt lo hi : Int) (offs : Array Int) (x : zx_L) (r : List zx_V) (G1 : zx_G) : zx_O := match zx_rng G1 x with
  | some t => if t.2 < lo ∨ hi < t.1 then (match zx_tg pc dflt with
      | some g => some [(g, G1, h, lv, r, k)]
      | none => none) else if t.1 = t.2 then (match offs[(t.1 - lo).toNat]? with
      | some off => (match zx_tg pc off with
        | some g => some [(g, G1, h, lv, r, k)]
        | none => none)
      | none => none) else none
  | none => none
def zx_xtab (dflt lo hi : Int) (offs : Array Int) : zx_O := match sk with
  | .inl x :: r => (match zx_rng G x with
    | some t => zx_all (zx_xtab1 pc h lv k dflt lo hi offs x r) (zx_tcuts G x t lo hi)
    | none => none)
  | _ => none
def zx_xint (n : Option Int) (d : Nat) : zx_O := match n with
  | some n => some [(pc + d, G, h, lv, .inl ([], n) :: sk, k)]
  | none => none
end ZXX
section ZXW
variable {p : Program} {l : Launch} {e : Env} {R : Room} {s : State} {m : MethodId} {args : Array Value} {below : List Frame} {meth : Method} {c : Code} {Q : State → Prop}
variable {D : va_G} {cl : List vw_C} {A : Nat → Prop} {b : Nat} {ex ad0 : List Nat} {nL : Nat} {ρ : List Int} {G : zx_G} {h : List zx_C} {lv : List (Nat × zx_V)} {k : Nat × Nat} {sk : List zx_V} {H : Heap} {locs : List Loc} {ls : Array Slot} {kc : List Value} {tys : List (ClassId × FieldType)} {ws : va_W} {lc : List (Nat × Value)}
variable {cc : ByteArray} {pc : Nat} {M : zx_M} {z : List (Nat × zx_T)}
/-- every way goes on -/
def zx_KK (p : Program) (l : Launch) (e : Env) (R : Room) (s : State) (m : MethodId) (args : Array Value) (below : List Frame) (meth : Method) (c : Code) (Q : State → Prop) (D : va_G) (cl : List vw_C) (A : Nat → Prop) (b : Nat) (ex ad0 : List Nat) (nL : Nat) (ρ : List Int) (z : List (Nat × zx_T)) : Prop :=
  ∀ q ∈ z, ∀ (r2 : List Int) (H' : Heap) (locs' : List Loc) (ls' : Array Slot) (kc' : List Value), zx_J D cl A b ex ad0 nL s (ρ ++ r2) q.2.1 q.2.2.1 q.2.2.2.1 q.2.2.2.2.1 H' locs' ls' kc' → W p l e R s m args below meth c H' locs' q.2.2.2.2.2.1 q.2.2.2.2.2.2 Q (F0 m q.1 ls' kc')
theorem zx_K1 {pc' : Nat} {G' : zx_G} {h' : List zx_C} {lv' : List (Nat × zx_V)} {sk' : List zx_V} {k' : Nat × Nat} {r2 : List Int} {H' : Heap} {locs' : List Loc} {ls' : Array Slot} {kc' : List Value} (K : zx_KK p l e R s m args below meth c Q D cl A b ex ad0 nL ρ z) (hz : (pc', G', h', lv', sk', k') ∈ z) (J : zx_J D cl A b ex ad0 nL s (ρ ++ r2) G' h' lv' sk' H' locs' ls' kc') : W p l e R s m args below meth c H' locs' k'.1 k'.2 Q (F0 m pc' ls' kc') := K _ hz r2 H' locs' ls' kc' J
theorem zx_one {α : Type} {a : α} {z : List α} (h : some [a] = some z) : a ∈ z := by cases h; exact List.mem_singleton.mpr rfl
theorem zx_go_W {pc' : Nat} {r : Option (zx_G × zx_V)} {x : Value} (B : zx_B D cl A b ex ad0 nL s ρ h lv sk H locs ls kc tys ws lc) (hz : zx_go pc' h lv k sk r = some z) (hr : ∀ q, r = some q → zx_P b ex ρ (zx_as ws) q x) (K : zx_KK p l e R s m args below meth c Q D cl A b ex ad0 nL ρ z) : W p l e R s m args below meth c H locs k.1 k.2 Q (F0 m pc' ls (x :: kc)) := by
  cases r with
  | none => cases hz
  | some q =>
    obtain ⟨r2, J⟩ := zx_J_res B (hr q rfl)
    exact zx_K1 K (zx_one hz) J
/-- one value more on the stack, bounds as they were -/
theorem zx_push_W {pc' : Nat} {v : zx_V} {x : Value} (hG : zx_ok ρ G) (B : zx_B D cl A b ex ad0 nL s ρ h lv sk H locs ls kc tys ws lc) (hz : some [(pc', G, h, lv, v :: sk, k)] = some z) (hv : zx_R b ex ρ (zx_as ws) v x) (K : zx_KK p l e R s m args below meth c Q D cl A b ex ad0 nL ρ z) : W p l e R s m args below meth c H locs k.1 k.2 Q (F0 m pc' ls (x :: kc)) :=
  zx_K1 K (zx_one hz) (zx_J_same hG (zx_B_sk B ⟨hv, B.2.2.2.2.2.2.2⟩))
theorem zx_top1 {v : zx_V} {r : List zx_V} (B : zx_B D cl A b ex ad0 nL s ρ h lv (v :: r) H locs ls kc tys ws lc) : ∃ x kr, kc = x :: kr ∧ zx_R b ex ρ (zx_as ws) v x ∧ zx_B D cl A b ex ad0 nL s ρ h lv r H locs ls kr tys ws lc := by
  have h8 := B.2.2.2.2.2.2.2
  rcases kc with _ | ⟨x, kr⟩
  · exact h8.elim
  · exact ⟨x, kr, rfl, h8.1, zx_B_sk B h8.2⟩
theorem zx_topi {y : zx_L} {r : List zx_V} (B : zx_B D cl A b ex ad0 nL s ρ h lv (.inl y :: r) H locs ls kc tys ws lc) : ∃ (w : Int32) (kr : List Value), kc = .int w :: kr ∧ zx_ev ρ y = some w.toInt ∧ zx_B D cl A b ex ad0 nL s ρ h lv r H locs ls kr tys ws lc := by
  obtain ⟨x, kr, h1, ⟨w, h2, h3⟩, h4⟩ := zx_top1 B
  subst h2
  exact ⟨w, kr, h1, h3, h4⟩
theorem zx_topl {r : List zx_V} (B : zx_B D cl A b ex ad0 nL s ρ h lv (zx_lg :: r) H locs ls kc tys ws lc) : ∃ (w : Int64) (kr : List Value), kc = .long w :: kr ∧ zx_B D cl A b ex ad0 nL s ρ h lv r H locs ls kr tys ws lc := by
  obtain ⟨x, kr, h1, ⟨w, h2⟩, h4⟩ := zx_top1 B
  subst h2
  exact ⟨w, kr, h1, h4⟩
theorem zx_xk_ok {n lo hi : Int} {d : Nat} {w : Int32} (hG : zx_ok ρ G) (B : zx_B D cl A b ex ad0 nL s ρ h lv sk H locs ls kc tys ws lc) (hz : zx_xk pc G h lv k sk n lo hi d = some z) (K : zx_KK p l e R s m args below meth c Q D cl A b ex ad0 nL ρ z) (hw : lo ≤ n → n ≤ hi → w.toInt = n) : W p l e R s m args below meth c H locs k.1 k.2 Q (F0 m (pc + d) ls (.int w :: kc)) := by
  unfold zx_xk at hz
  split at hz
  · rename_i hc
    simp only [Bool.and_eq_true, decide_eq_true_iff] at hc
    refine zx_push_W hG B hz ⟨w, rfl, ?_⟩ K
    rw [hw hc.1 hc.2]
    exact zx_ev_iff.mpr ⟨0, rfl, by simp⟩
  · cases hz
theorem zx_lk_B {i : Nat} {v : zx_V} (B : zx_B D cl A b ex ad0 nL s ρ h lv sk H locs ls kc tys ws lc) (hv : zx_lk lv i = some v) : ∃ (x : Value) (j : Nat), lc[j]? = some (i, x) ∧ ls[i]? = some (.val x) ∧ zx_R b ex ρ (zx_as ws) v x := by
  obtain ⟨x, j, h1, h2⟩ := zx_lk_ok (R := zx_R b ex ρ (zx_as ws)) B.2.2.2.2.2.1 hv
  exact ⟨x, j, h1, lv_at B.2.2.2.2.2.2.1 j h1, h2⟩
theorem zx_xld_ok {i d : Nat} (hG : zx_ok ρ G) (B : zx_B D cl A b ex ad0 nL s ρ h lv sk H locs ls kc tys ws lc) (hz : zx_xld pc G h lv k sk i d = some z) (K : zx_KK p l e R s m args below meth c Q D cl A b ex ad0 nL ρ z) : ∃ w : Int32, ls[i]? = some (.val (.int w)) ∧ W p l e R s m args below meth c H locs k.1 k.2 Q (F0 m (pc + d) ls (.int w :: kc)) := by
  unfold zx_xld at hz
  split at hz
  · rename_i e0 he
    obtain ⟨x, j, h1, h2, w, h3, h4⟩ := zx_lk_B B he
    subst h3
    exact ⟨w, h2, zx_push_W hG B hz ⟨w, rfl, h4⟩ K⟩
  · cases hz
theorem zx_xlld_ok {i d : Nat} (hG : zx_ok ρ G) (B : zx_B D cl A b ex ad0 nL s ρ h lv sk H locs ls kc tys ws lc) (hz : zx_xlld pc G h lv k sk i d = some z) (K : zx_KK p l e R s m args below meth c Q D cl A b ex ad0 nL ρ z) : ∃ w : Int64, ls[i]? = some (.val (.long w)) ∧ W p l e R s m args below meth c H locs k.1 k.2 Q (F0 m (pc + d) ls (.long w :: kc)) := by
  unfold zx_xlld at hz
  split at hz
  · rename_i he
    obtain ⟨x, j, h1, h2, w, h3⟩ := zx_lk_B B he
    subst h3
    exact ⟨w, h2, zx_push_W hG B hz ⟨w, rfl⟩ K⟩
  · cases hz
theorem zx_xald_ok {i d : Nat} (hG : zx_ok ρ G) (B : zx_B D cl A b ex ad0 nL s ρ h lv sk H locs ls kc tys ws lc) (hz : zx_xald pc G h lv k sk i d = some z) (K : zx_KK p l e R s m args below meth c Q D cl A b ex ad0 nL ρ z) : ∃ w : Nat, ls[i]? = some (.val (.ref w)) ∧ W p l e R s m args below meth c H locs k.1 k.2 Q (F0 m (pc + d) ls (.ref w :: kc)) := by
  unfold zx_xald at hz
  split at hz
  · rename_i r he
    obtain ⟨x, j, h1, h2, h3⟩ := zx_lk_B B he
    rcases h3 with ⟨h4, -⟩ | ⟨i0, a, h4, h5, h6⟩
    · cases h4
    · subst h6
      exact ⟨a, h2, zx_push_W hG B hz (Or.inr ⟨i0, a, h4, h5, rfl⟩) K⟩
  · rename_i he
    obtain ⟨x, j, h1, h2, h3⟩ := zx_lk_B B he
    have h3 : x = .ref b := h3
    subst h3
    exact ⟨b, h2, zx_push_W hG B hz rfl K⟩
  · cases hz
theorem zx_B_lv {lv' : List (Nat × zx_V)} {lc' : List (Nat × Value)} {ls' : Array Slot} (B : zx_B D cl A b ex ad0 nL s ρ h lv sk H locs ls kc tys ws lc) (h6 : zx_F2 (fun x y => x.1 = y.1 ∧ zx_R b ex ρ (zx_as ws) x.2 y.2) lv' lc') (h7 : lv_has ls' nL lc') : zx_B D cl A b ex ad0 nL s ρ h lv' sk H locs ls' kc tys ws lc' := by
  obtain ⟨h1, h2, h3, h4, h5, -, -, h8⟩ := B
  exact ⟨h1, h2, h3, h4, h5, h6, h7, h8⟩
theorem zx_xst_ok {i d : Nat} (hG : zx_ok ρ G) (hM : zx_mV M = nL) (B : zx_B D cl A b ex ad0 nL s ρ h lv sk H locs ls kc tys ws lc) (hz : zx_xst M pc G h lv k sk i d = some z) (K : zx_KK p l e R s m args below meth c Q D cl A b ex ad0 nL ρ z) : ∃ (w : Int32) (kr : List Value), kc = .int w :: kr ∧ i < nL ∧ ∀ ls' : Array Slot, lv_has ls' nL ((i, Value.int w) :: lc.filter (fun q => !(q.1 == i) && !(q.1 + 1 == i && q.2.category == 2))) → W p l e R s m args below meth c H locs k.1 k.2 Q (F0 m (pc + d) ls' kr) := by
  unfold zx_xst at hz
  split at hz
  · rename_i e0 r
    obtain ⟨w, kr, h1, h2, B'⟩ := zx_topi B
    split at hz
    · rename_i hi
      refine ⟨w, kr, h1, by rw [← hM]; exact hi, fun ls' hl => ?_⟩
      exact zx_K1 K (zx_one hz) (zx_J_same hG (zx_B_lv B' (zx_st1_ok (v := .inl e0) (x := .int w) B.2.2.2.2.2.1 ⟨w, rfl, h2⟩) hl))
    · cases hz
  · cases hz
theorem zx_xlst_ok {i d : Nat} (hG : zx_ok ρ G) (hM : zx_mV M = nL) (B : zx_B D cl A b ex ad0 nL s ρ h lv sk H locs ls kc tys ws lc) (hz : zx_xlst M pc G h lv k sk i d = some z) (K : zx_KK p l e R s m args below meth c Q D cl A b ex ad0 nL ρ z) : ∃ (w : Int64) (kr : List Value), kc = .long w :: kr ∧ i + 1 < nL ∧ ∀ ls' : Array Slot, lv_has ls' nL ((i, Value.long w) :: lc.filter (fun q => !(q.1 == i) && (!(q.1 == i + 1) && !(q.1 + 1 == i && q.2.category == 2)))) → W p l e R s m args below meth c H locs k.1 k.2 Q (F0 m (pc + d) ls' kr) := by
  unfold zx_xlst at hz
  split at hz
  · rename_i r
    obtain ⟨w, kr, h1, B'⟩ := zx_topl B
    split at hz
    · rename_i hi
      refine ⟨w, kr, h1, by rw [← hM]; exact hi, fun ls' hl => ?_⟩
      exact zx_K1 K (zx_one hz) (zx_J_same hG (zx_B_lv B' (zx_st2_ok (v := zx_lg) (x := .long w) B.2.2.2.2.2.1 ⟨w, rfl⟩) hl))
    · cases hz
  · cases hz
theorem zx_xast_ok {i d : Nat} (hG : zx_ok ρ G) (hM : zx_mV M = nL) (B : zx_B D cl A b ex ad0 nL s ρ h lv sk H locs ls kc tys ws lc) (hz : zx_xast M pc G h lv k sk i d = some z) (K : zx_KK p l e R s m args below meth c Q D cl A b ex ad0 nL ρ z) : ∃ (w : Nat) (kr : List Value), kc = .ref w :: kr ∧ i < nL ∧ ∀ ls' : Array Slot, lv_has ls' nL ((i, Value.ref w) :: lc.filter (fun q => !(q.1 == i) && !(q.1 + 1 == i && q.2.category == 2))) → W p l e R s m args below meth c H locs k.1 k.2 Q (F0 m (pc + d) ls' kr) := by
  unfold zx_xast at hz
  split at hz
  · rename_i q0 r
    obtain ⟨x, kr, h1, h2, B'⟩ := zx_top1 B
    rcases h2 with ⟨h4, -⟩ | ⟨i0, a, h4, h5, h6⟩
    · cases h4
    · subst h6
      split at hz
      · rename_i hi
        refine ⟨a, kr, h1, by rw [← hM]; exact hi, fun ls' hl => ?_⟩
        exact zx_K1 K (zx_one hz) (zx_J_same hG (zx_B_lv B' (zx_st1_ok (v := .inr (.inl (q0, false))) (x := .ref a) B.2.2.2.2.2.1 (Or.inr ⟨i0, a, h4, h5, rfl⟩)) hl))
      · cases hz
  · cases hz
theorem zx_xinc_ok {i : Nat} {n : Int} (hG : zx_ok ρ G) (hM : zx_mV M = nL) (B : zx_B D cl A b ex ad0 nL s ρ h lv sk H locs ls kc tys ws lc) (hz : zx_xinc M pc G h lv k sk i n = some z) (K : zx_KK p l e R s m args below meth c Q D cl A b ex ad0 nL ρ z) : ∃ (w : Int32) (j : Nat), lc[j]? = some (i, .int w) ∧ i < nL ∧ ∀ ls' : Array Slot, lv_has ls' nL ((i, Value.int (w + Int32.ofInt n)) :: lc.filter (fun q => !(q.1 == i) && !(q.1 + 1 == i && q.2.category == 2))) → W p l e R s m args below meth c H locs k.1 k.2 Q (F0 m (pc + 3) ls' kc) := by
  unfold zx_xinc at hz
  split at hz
  · rename_i e0 he
    obtain ⟨x, j, h1, h2, w, h3, h4⟩ := zx_lk_B B he
    subst h3
    split at hz
    · rename_i hi
      simp only [Bool.and_eq_true, decide_eq_true_iff] at hi
      split at hz
      · rename_i r hr
        refine ⟨w, j, h1, by rw [← hM]; exact hi.1.1, fun ls' hl => ?_⟩
        have hn : (Int32.ofInt n).toInt = n := zx_ofI (by omega) (by omega)
        have hadd : zx_ev ρ (zx_add e0 ([], n)) = some (w.toInt + n) := zx_add_ev h4 (zx_ev_iff.mpr ⟨0, rfl, by simp⟩)
        obtain ⟨r2, g1, g2⟩ := zx_val_ok (b := b) (ex := ex) (ad := zx_as ws) hG hr hadd (w := w + Int32.ofInt n) (fun k1 k2 => by
          have h9 := zx_addI w (Int32.ofInt n) (by rw [hn]; exact k1) (by rw [hn]; exact k2)
          rw [h9, hn])
        have B2 := zx_B_up (r := r2) B
        exact zx_K1 K (zx_one hz) ⟨g1, tys, ws, _, zx_B_lv B2 (zx_st1_ok (v := r.2) (x := .int (w + Int32.ofInt n)) B2.2.2.2.2.2.1 g2) hl⟩
      · cases hz
    · cases hz
  · cases hz
theorem zx_xbin_ok {f : zx_L → zx_L → Option (zx_G × zx_V)} (B : zx_B D cl A b ex ad0 nL s ρ h lv sk H locs ls kc tys ws lc) (hz : zx_xbin pc h lv k sk f = some z) (K : zx_KK p l e R s m args below meth c Q D cl A b ex ad0 nL ρ z) : ∃ (x y : Int32) (kr : List Value) (e1 e2 : zx_L) (q : zx_G × zx_V), kc = .int y :: .int x :: kr ∧ zx_ev ρ e1 = some x.toInt ∧ zx_ev ρ e2 = some y.toInt ∧ f e1 e2 = some q ∧ ∀ v : Int32, zx_P b ex ρ (zx_as ws) q (.int v) → W p l e R s m args below meth c H locs k.1 k.2 Q (F0 m (pc + 1) ls (.int v :: kr)) := by
  unfold zx_xbin at hz
  split at hz
  · rename_i y x r
    obtain ⟨y', kr, h1, h2, B1⟩ := zx_topi B
    obtain ⟨x', kr', h3, h4, B2⟩ := zx_topi B1
    subst h3
    cases hf : f x y with
    | none => rw [hf] at hz; cases hz
    | some q =>
      rw [hf] at hz
      exact ⟨x', y', kr', x, y, q, h1, h4, h2, hf, fun v hv => zx_go_W B2 hz (fun q' hq' => by cases hq'; exact hv) K⟩
  · cases hz
theorem zx_xbr_ok {cn : ClassFile.Cond} {t : Nat} {d : zx_L} {v : Int} (hG : zx_ok ρ G) (B : zx_B D cl A b ex ad0 nL s ρ h lv sk H locs ls kc tys ws lc) (hv : zx_ev ρ d = some v) (hz : zx_xbr pc G h lv k cn t d sk = some z) (K : zx_KK p l e R s m args below meth c Q D cl A b ex ad0 nL ρ z) : (zx_holds cn v → W p l e R s m args below meth c H locs k.1 k.2 Q (F0 m t ls kc)) ∧ (¬ zx_holds cn v → W p l e R s m args below meth c H locs k.1 k.2 Q (F0 m (pc + 3) ls kc)) := by
  unfold zx_xbr at hz
  split at hz
  · rename_i q hq
    cases hz
    obtain ⟨h1, h2⟩ := zx_cmp_ok hG hv hq cn
    refine ⟨fun hh => ?_, fun hh => ?_⟩
    · obtain ⟨G', g1, g2⟩ := h1 hh
      exact zx_K1 K (List.mem_map.mpr ⟨_, g1, rfl⟩) (zx_J_same g2 B)
    · obtain ⟨G', g1, g2⟩ := h2 hh
      exact zx_K1 K (List.mem_map.mpr ⟨_, g1, rfl⟩) (zx_J_same g2 B)
  · cases hz
theorem zx_xif_ok {cn : ClassFile.Cond} {off : Int} (hG : zx_ok ρ G) (B : zx_B D cl A b ex ad0 nL s ρ h lv sk H locs ls kc tys ws lc) (hz : zx_xif pc G h lv k sk cn off = some z) (K : zx_KK p l e R s m args below meth c Q D cl A b ex ad0 nL ρ z) : ∃ (x : Int32) (kr : List Value) (t : Nat), kc = .int x :: kr ∧ (pc : Int) + off = (t : Int) ∧ (zx_holds cn x.toInt → W p l e R s m args below meth c H locs k.1 k.2 Q (F0 m t ls kr)) ∧ (¬ zx_holds cn x.toInt → W p l e R s m args below meth c H locs k.1 k.2 Q (F0 m (pc + 3) ls kr)) := by
  unfold zx_xif at hz
  split at hz
  · rename_i x r
    obtain ⟨x', kr, h1, h2, B1⟩ := zx_topi B
    split at hz
    · rename_i t ht
      exact ⟨x', kr, t, h1, zx_tg_ok ht, zx_xbr_ok hG B1 h2 hz K⟩
    · cases hz
  · cases hz
theorem zx_xicmp_ok {cn : ClassFile.Cond} {off : Int} (hG : zx_ok ρ G) (B : zx_B D cl A b ex ad0 nL s ρ h lv sk H locs ls kc tys ws lc) (hz : zx_xicmp pc G h lv k sk cn off = some z) (K : zx_KK p l e R s m args below meth c Q D cl A b ex ad0 nL ρ z) : ∃ (x y : Int32) (kr : List Value) (t : Nat), kc = .int y :: .int x :: kr ∧ (pc : Int) + off = (t : Int) ∧ (zx_holds cn (x.toInt - y.toInt) → W p l e R s m args below meth c H locs k.1 k.2 Q (F0 m t ls kr)) ∧ (¬ zx_holds cn (x.toInt - y.toInt) → W p l e R s m args below meth c H locs k.1 k.2 Q (F0 m (pc + 3) ls kr)) := by
  unfold zx_xicmp at hz
  split at hz
  · rename_i y x r
    obtain ⟨y', kr, h1, h2, B1⟩ := zx_topi B
    obtain ⟨x', kr', h3, h4, B2⟩ := zx_topi B1
    subst h3
    split at hz
    · rename_i t ht
      exact ⟨x', y', kr', t, h1, zx_tg_ok ht, zx_xbr_ok hG B2 (zx_sub_ev h4 h2) hz K⟩
    · cases hz
  · cases hz
theorem zx_xtab_ok {dflt lo hi : Int} {offs : Array Int} (hG : zx_ok ρ G) (B : zx_B D cl A b ex ad0 nL s ρ h lv sk H locs ls kc tys ws lc) (hz : zx_xtab pc G h lv k sk dflt lo hi offs = some z) (K : zx_KK p l e R s m args below meth c Q D cl A b ex ad0 nL ρ z) : ∃ (x : Int32) (kr : List Value) (t : Nat), kc = .int x :: kr ∧ W p l e R s m args below meth c H locs k.1 k.2 Q (F0 m t ls kr) ∧ (((x.toInt < lo ∨ hi < x.toInt) ∧ (pc : Int) + dflt = (t : Int)) ∨ (¬ x.toInt < lo ∧ ¬ hi < x.toInt ∧ ∃ off, offs[(x.toInt - lo).toNat]? = some off ∧ (pc : Int) + off = (t : Int))) := by
  unfold zx_xtab at hz
  split at hz
  · rename_i x r
    obtain ⟨x', kr, h1, h2, B1⟩ := zx_topi B
    split at hz
    · rename_i t0 ht0
      obtain ⟨G', g1, g2⟩ := zx_tcuts_ok hG (lo := lo) (hi := hi) h2 (zx_rng_ok hG ht0 h2)
      obtain ⟨y, h3, h4⟩ := zx_all_ok hz g1
      unfold zx_xtab1 at h3
      split at h3
      · rename_i t ht
        obtain ⟨q1, q2⟩ := zx_rng_ok g2 ht h2
        split at h3
        · rename_i ho
          split at h3
          · rename_i g hg
            exact ⟨x', kr, g, h1, zx_K1 K (h4 _ (zx_one h3)) (zx_J_same g2 B1), Or.inl ⟨by omega, zx_tg_ok hg⟩⟩
          · cases h3
        · rename_i ho
          split at h3
          · rename_i hc
            have hx : x'.toInt = t.1 := by omega
            split at h3
            · rename_i off hoff
              split at h3
              · rename_i g hg
                exact ⟨x', kr, g, h1, zx_K1 K (h4 _ (zx_one h3)) (zx_J_same g2 B1), Or.inr ⟨fun q => ho (Or.inl (by omega)), fun q => ho (Or.inr (by omega)), off, by rw [hx]; exact hoff, zx_tg_ok hg⟩⟩
              · cases h3
            · cases h3
          · cases h3
      · cases h3
    · cases hz
  · cases hz
end ZXW
end
section
/-! zx: instructions on cells -/
def zx_fd {α : Type} : List (Nat × α) → Nat → Option α
  | [], _ => none
  | q :: r, i => if q.1 = i then some q.2 else zx_fd r i
theorem zx_fd_mem {α : Type} {i : Nat} {v : α} : ∀ {l : List (Nat × α)}, zx_fd l i = some v → (i, v) ∈ l
  | [], h => nomatch h
  | q :: r, h => by
    rw [zx_fd] at h
    by_cases hq : q.1 = i
    · rw [if_pos hq] at h
      cases h
      rw [← hq]
      exact List.mem_cons_self
    · rw [if_neg hq] at h
      exact List.mem_cons_of_mem _ (zx_fd_mem h)
def zx_tag (ty : FieldType) : Nat := match ty with
  | .int => 0
  | .boolean => 1
  | .long => 2
  | .object _ => 3
  | .array _ => 3
  | _ => 9
def zx_dv (t : Nat) : zx_S := match t with
  | 2 => .inl zx_lg
  | 3 => .inl (.inr (.inl ([], true)))
  | _ => .inl (.inl ([], 0))
def zx_dV (t : Nat) : Value := match t with
  | 2 => .long 0
  | 3 => .null
  | _ => .int 0
theorem zx_dv_ok {b : Nat} {ex : List Nat} {ρ : List Int} {ad : List Nat} (t : Nat) : zx_RS b ex ρ ad (zx_dv t) (zx_dV t) := by
  unfold zx_dv zx_dV
  split
  · exact ⟨0, rfl⟩
  · exact Or.inl ⟨rfl, rfl⟩
  · exact ⟨0, rfl, rfl⟩
theorem zx_dV_ty {ty : FieldType} (h : zx_tag ty ≠ 9) : defaultValue ty = zx_dV (zx_tag ty) := by
  cases ty <;> first | rfl | exact absurd rfl h
/-- may stand in a field of that sort as it is -/
def zx_fit (G : zx_G) (t : Nat) (v : zx_V) : Bool := match v with
  | .inl e => match zx_rng G e with
    | some q => t == 0 || (t == 1 && zx_in q 0 1)
    | none => false
  | .inr (.inl _) => t == 3
  | .inr (.inr true) => t == 2
  | .inr (.inr false) => false
theorem zx_01 {w : Int32} (h1 : 0 ≤ w.toInt) (h2 : w.toInt ≤ 1) : w = 0 ∨ w = 1 := by
  rcases (by omega : w.toInt = 0 ∨ w.toInt = 1) with h | h
  · exact Or.inl (Int32.toInt_inj.mp h)
  · exact Or.inr (Int32.toInt_inj.mp h)
theorem zx_fit_ok {b : Nat} {ex : List Nat} {ρ : List Int} {ad : List Nat} {G : zx_G} {ty : FieldType} {v : zx_V} {x : Value} (hG : zx_ok ρ G) (h : zx_fit G (zx_tag ty) v = true) (hv : zx_R b ex ρ ad v x) : narrow ty x = x ∧ fits ty x = true := by
  rcases v with e | r | k
  · obtain ⟨w, h1, h2⟩ := hv
    subst h1
    unfold zx_fit at h
    dsimp only at h
    split at h
    · rename_i q hq
      obtain ⟨g1, g2⟩ := zx_rng_ok hG hq h2
      cases ty <;> first | exact ⟨rfl, rfl⟩ | (simp [zx_tag] at h; done) | skip
      simp only [zx_tag] at h
      have h3 : zx_in q 0 1 = true := by simpa using h
      obtain ⟨k1, k2⟩ := zx_in_iff.mp h3
      rcases zx_01 (w := w) (by omega) (by omega) with rfl | rfl
      · exact ⟨rfl, rfl⟩
      · exact ⟨rfl, rfl⟩
    · cases h
  · have hx : x = .null ∨ ∃ a, x = .ref a := by
      rcases hv with ⟨-, h1⟩ | ⟨i, a, -, -, h1⟩
      · exact Or.inl h1
      · exact Or.inr ⟨a, h1⟩
    cases ty <;> first | (simp [zx_fit, zx_tag] at h; done) | skip
    · rcases hx with rfl | ⟨a, rfl⟩ <;> exact ⟨rfl, rfl⟩
    · rcases hx with rfl | ⟨a, rfl⟩ <;> exact ⟨rfl, rfl⟩
  · cases k
    · cases h
    · obtain ⟨w, h1⟩ := hv
      subst h1
      cases ty <;> first | (simp [zx_fit, zx_tag] at h; done) | skip
      exact ⟨rfl, rfl⟩
/-- rows of numbers that never change -/
abbrev zx_Y : Type := List (Nat × List Int)
section ZXY
variable (M : zx_M) (Y : zx_Y) (pc : Nat) (G : zx_G) (h : List zx_C) (lv : List (Nat × zx_V)) (k : Nat × Nat) (sk : List zx_V)
def zx_xslot (r : List zx_V) (sl : zx_S) : zx_O := match sl with
  | .inl v => some [(pc, G, h, lv, v :: r, k)]
  | .inr t => zx_go pc h lv k r (some (zx_fr G t.1 t.2))
def zx_xget1 (q : Nat × Nat × Nat × Bool) (r : List zx_V) (id : Nat) : zx_O := if id < 64 then none else match h[id - 64]? with
  | some (.inl o) => if o.1 = q.1 then (match o.2[q.2.1]? with
    | some sl => zx_xslot (pc + 3) G h lv k r sl
    | none => none) else none
  | _ => none
def zx_xget (ix : Nat) : zx_O := match zx_mF M ix with
  | some q => (match sk with
    | .inr (.inl (ids, false)) :: r => zx_all (zx_xget1 pc G h lv k q r) ids
    | _ => none)
  | none => none
def zx_xput (ix : Nat) : zx_O := match zx_mF M ix with
  | some q => (match sk with
    | v :: .inr (.inl ([id], false)) :: r => if id < 64 then none else (match h[id - 64]? with
      | some (.inl o) => if o.1 = q.1 ∧ q.2.1 < o.2.length ∧ zx_fit G q.2.2.1 v = true ∧ (!q.2.2.2 || zx_mB M) = true then some [(pc + 3, G, h.set (id - 64) (.inl (o.1, o.2.set q.2.1 (.inl v))), lv, r, k)] else none
      | _ => none)
    | _ => none)
  | none => none
def zx_xal1 (r : List zx_V) (ar : Nat × Nat × Bool × List zx_S) (e : zx_L) (G1 : zx_G) : zx_O := match zx_rng G1 e with
  | none => none
  | some t => if 0 ≤ t.1 ∧ t.2 < (ar.2.1 : Int) then (if ar.2.2.1 = true then (match ar.2.2.2 with
      | sl :: _ => zx_xslot (pc + 1) G1 h lv k r sl
      | [] => none) else (if t.1 = t.2 then (match ar.2.2.2[t.1.toNat]? with
      | some sl => zx_xslot (pc + 1) G1 h lv k r sl
      | none => none) else none)) else none
def zx_xal2 (ok : Nat → Bool) (r : List zx_V) (e : zx_L) (id : Nat) : zx_O := if id < 64 then none else match h[id - 64]? with
  | some (.inr (.inl ar)) => if ok ar.1 = true then (if ar.2.2.1 = true then zx_xal1 pc h lv k r ar e G else (match zx_split G e with
    | some l => zx_all (zx_xal1 pc h lv k r ar e) l
    | none => none)) else none
  | _ => none
def zx_xal (ok : Nat → Bool) : zx_O := match sk with
  | .inl e :: .inr (.inl (ids, false)) :: r => zx_all (zx_xal2 pc G h lv k ok r e) ids
  | _ => none
def zx_xyl1 (r : List zx_V) (row : List Int) (e : zx_L) (G1 : zx_G) : zx_O := match zx_rng G1 e with
  | none => none
  | some t => if 0 ≤ t.1 ∧ t.1 = t.2 ∧ t.2 < (row.length : Int) then some [(pc + 1, G1, h, lv, .inl ([], row.getD t.1.toNat 0) :: r, k)] else none
/-- of a row that never changes -/
def zx_xyl : zx_O := match sk with
  | .inl e :: .inr (.inl ([id], false)) :: r => (match zx_fd Y id with
    | some row => (match zx_split G e with
      | some l => zx_all (zx_xyl1 pc h lv k r row e) l
      | none => none)
    | none => none)
  | _ => none
def zx_xyn : zx_O := match sk with
  | .inr (.inl ([id], false)) :: r => (match zx_fd Y id with
    | some row => if row.length < 2147483648 then some [(pc + 1, G, h, lv, .inl ([], (row.length : Int)) :: r, k)] else none
    | none => none)
  | _ => none
/-- of the script: at a place that is known, behind which the script goes on -/
def zx_xsl : zx_O := match sk with
  | .inl e :: .inr (.inr false) :: r => (match zx_rng G e, G[0]? with
    | some t, some b0 => if 0 ≤ t.1 ∧ t.1 = t.2 ∧ t.1 < 6 ∧ t.1 < b0.1 ∧ zx_mX M = true then some [(pc + 1, G, h, lv, .inl ([(1 + t.1.toNat, 1)], 0) :: r, k)] else none
    | _, _ => none)
  | _ => none
def zx_xsn : zx_O := match sk with
  | .inr (.inr false) :: r => if zx_mX M = true then some [(pc + 1, G, h, lv, .inl ([(0, 1)], 0) :: r, k)] else none
  | _ => none
def zx_xas1 (r : List zx_V) (id : Nat) (ar : Nat × Nat × Bool × List zx_S) (v : zx_V) (e : zx_L) (G1 : zx_G) : zx_O := match zx_rng G1 e with
  | none => none
  | some t => if 0 ≤ t.1 ∧ t.1 = t.2 ∧ t.2 < (ar.2.1 : Int) then some [(pc + 1, G1, h.set (id - 64) (.inr (.inl (ar.1, ar.2.1, false, ar.2.2.2.set t.1.toNat (.inl v)))), lv, r, k)] else none
/-- into a row of ints, bytes, booleans: what fits as it is -/
def zx_bok (by_ : Bool) (t : Nat) (tv : Int × Int) : Bool := match by_ with
  | true => (t == 1 && zx_in tv (-128) 127) || (t == 2 && zx_in tv 0 1)
  | false => t == 0
def zx_xas (by_ : Bool) : zx_O := match sk with
  | .inl v :: .inl e :: .inr (.inl ([id], false)) :: r => if id < 64 then none else (match h[id - 64]?, zx_rng G v, zx_rng G e with
    | some (.inr (.inl ar)), some tv, some te => if zx_bok by_ ar.1 tv = true then (if ar.2.2.1 = true then (match ar.2.2.2 with
        | [.inr t] => if 0 ≤ te.1 ∧ te.2 < (ar.2.1 : Int) ∧ zx_in tv t.1 t.2 = true then some [(pc + 1, G, h, lv, r, k)] else none
        | _ => none) else (match zx_split G e with
        | some l => zx_all (zx_xas1 pc h lv k r id ar (.inl v) e) l
        | none => none)) else none
    | _, _, _ => none)
  | _ => none
/-- into a row of references: an object of just that class -/
def zx_xqs : zx_O := match sk with
  | .inr (.inl ([iv], false)) :: .inl e :: .inr (.inl ([id], false)) :: r => if id < 64 ∨ iv < 64 then none else (match h[id - 64]?, h[iv - 64]? with
    | some (.inr (.inl ar)), some (.inl o) => if ar.1 = 3 + o.1 ∧ ar.2.2.1 = false then (match zx_split G e with
        | some l => zx_all (zx_xas1 pc h lv k r id ar (.inr (.inl ([iv], false))) e) l
        | none => none) else none
    | _, _ => none)
  | _ => none
def zx_xlen1 (r : List zx_V) (id : Nat) : zx_O := if id < 64 then none else match h[id - 64]? with
  | some (.inr (.inl ar)) => if ar.2.1 < 2147483648 then some [(pc + 1, G, h, lv, .inl ([], (ar.2.1 : Int)) :: r, k)] else none
  | _ => none
def zx_xlen : zx_O := match sk with
  | .inr (.inl (ids, false)) :: r => zx_all (zx_xlen1 pc G h lv k r) ids
  | _ => none
def zx_at (a : ArrayType) : Nat := match a with
  | .int => 0
  | .byte => 1
  | .boolean => 2
  | .long => 3
  | _ => 9
def zx_xnew (ix : Nat) (dt : List (List Nat)) : zx_O := match zx_mC M ix with
  | some ci => (match dt[ci]? with
    | some d => if ix < 65536 ∧ k.1 + 1 ≤ (zx_mR M).1 ∧ k.2 + d.length ≤ (zx_mR M).2 then some [(pc + 3, G, h ++ [.inl (ci, d.map zx_dv)], lv, .inr (.inl ([64 + h.length], false)) :: sk, (k.1 + 1, k.2 + d.length))] else none
    | none => none)
  | none => none
def zx_xna (at_ : ArrayType) : zx_O := match sk with
  | .inl e :: r => if zx_isc e = true ∧ 0 ≤ e.2 ∧ e.2 ≤ 1000000 ∧ k.1 + 1 ≤ (zx_mR M).1 ∧ k.2 + e.2.toNat ≤ (zx_mR M).2 then (if zx_at at_ = 3 then some [(pc + 2, G, h ++ [.inr (.inr e.2.toNat)], lv, .inr (.inl ([64 + h.length], false)) :: r, (k.1 + 1, k.2 + e.2.toNat))] else if zx_at at_ < 3 then (match zx_mN M pc with
      | some (true, lo, hi) => if lo ≤ 0 ∧ 0 ≤ hi then some [(pc + 2, G, h ++ [.inr (.inl (zx_at at_, e.2.toNat, true, [.inr (lo, hi)]))], lv, .inr (.inl ([64 + h.length], false)) :: r, (k.1 + 1, k.2 + e.2.toNat))] else none
      | some (false, _) => some [(pc + 2, G, h ++ [.inr (.inl (zx_at at_, e.2.toNat, false, List.replicate e.2.toNat (.inl (.inl ([], 0)))))], lv, .inr (.inl ([64 + h.length], false)) :: r, (k.1 + 1, k.2 + e.2.toNat))]
      | none => none) else none) else none
  | _ => none
def zx_xnq (ix : Nat) : zx_O := match sk with
  | .inl e :: r => (match zx_mC M (ix + 65536) with
    | some ci => if ix < 65536 ∧ zx_isc e = true ∧ 0 ≤ e.2 ∧ e.2 ≤ 1000000 ∧ k.1 + 1 ≤ (zx_mR M).1 ∧ k.2 + e.2.toNat ≤ (zx_mR M).2 then some [(pc + 3, G, h ++ [.inr (.inl (3 + ci, e.2.toNat, false, List.replicate e.2.toNat (.inl (.inr (.inl ([], true))))))], lv, .inr (.inl ([64 + h.length], false)) :: r, (k.1 + 1, k.2 + e.2.toNat))] else none
    | none => none)
  | _ => none
def zx_xgs (ix : Nat) : zx_O := match zx_mS M ix with
  | some id => if id < 64 then some [(pc + 3, G, h, lv, .inr (.inl ([id], false)) :: sk, k)] else none
  | none => none
end ZXY
end
section
/-! zx: what the instructions on cells do is what the machine does -/
/-- statics that hold a reference, and rows of numbers behind them -/
def zx_CX (ex : List Nat) (A : Nat → Prop) (U : State) (H : Heap) (sts : List (String × String × String × Nat)) (Y : zx_Y) : Prop :=
  (∀ q ∈ sts, ∃ a, ex[q.2.2.2]? = some a ∧ va_Z q.1 q.2.1 q.2.2.1 (.ref a) A U H) ∧
  (∀ q ∈ Y, ∃ a, q.1 < 64 ∧ ex[q.1]? = some a ∧ (∀ n ∈ q.2, -2147483648 ≤ n ∧ n ≤ 2147483647) ∧ va_T .int a q.2.length (fun j => .int (Int32.ofInt (q.2.getD j 0))) A U H)
def zx_CK (cl : List vw_C) (Ts : List Jvm.Cond) (dt : List (List Nat)) : Prop :=
  ∀ (ci : Nat) (C : String) (T : u_T) (N : Nat), cl[ci]? = some (C, T, N) → (∀ w ∈ u_ws C T N, w ∈ Ts) ∧ ∃ ty : Nat → FieldType, (∀ k, k < N → parseFieldDescriptor (T k).2.2.1 = some (ty k)) ∧ (∀ a, a < N → ∀ b, b < N → a ≠ b → (T a).2.1 ≠ (T b).2.1) ∧ ∀ d, dt[ci]? = some d → d.length = N ∧ ∀ j, j < N → d[j]? = some (zx_tag (ty j)) ∧ zx_tag (ty j) ≠ 9
def zx_MK (own : String) (cl : List vw_C) (Ts nw : List Jvm.Cond) (sts : List (String × String × String × Nat)) (aos : List String) (M : zx_M) : Prop :=
  (∀ ix q, zx_mF M ix = some q → ∃ (C : String) (T : u_T) (N : Nat) (ty : FieldType), cl[q.1]? = some (C, T, N) ∧ q.2.1 < N ∧ Jvm.Cond.fieldLink own ix (T q.2.1).1 (T q.2.1).2.1 (T q.2.1).2.2.1 ∈ Ts ∧ parseFieldDescriptor (T q.2.1).2.2.1 = some ty ∧ zx_tag ty = q.2.2.1 ∧ (T q.2.1).2.2.2 = q.2.2.2 ∧ (q.2.2.2 = true → (T q.2.1).1 = own ∨ zx_mB M = false)) ∧
  (∀ ix id, zx_mS M ix = some id → ∃ t ∈ sts, t.2.2.2 = id ∧ (Jvm.Cond.fieldLink own ix t.1 t.2.1 t.2.2.1 ∈ Ts ∨ ∃ host, Jvm.Cond.fieldLinkNest own ix t.1 t.2.1 t.2.2.1 host ∈ nw)) ∧
  (∀ ix ci, zx_mC M ix = some ci → ∃ (C : String) (T : u_T) (N : Nat), cl[ci]? = some (C, T, N) ∧ (ix < 65536 → Jvm.Cond.classLink own ix C ∈ Ts ∧ Jvm.Cond.instantiable C N ∈ Ts ∧ Jvm.Cond.initialized C ∈ Ts) ∧ (65536 ≤ ix → Jvm.Cond.classLink own (ix - 65536) C ∈ Ts ∧ C ∈ aos)) ∧
  (∀ ix n, zx_mI M ix = some n → ∃ w : Int32, w.toInt = n ∧ Jvm.Cond.constant own ix w ∈ Ts) ∧
  (∀ ix, zx_mL M ix = true → ∃ w : Int64, Jvm.Cond.constantLong own ix w ∈ Ts)
/-- a frame, and what goes with it -/
def zx_FX (p : Program) (s : State) (m : MethodId) (args : Array Value) (meth : Method) (c : Code) (R : Room) (cc : ByteArray) (own : String) (Ts nw : List Jvm.Cond) (cl : List vw_C) (A : Nat → Prop) (ex : List Nat) (nL : Nat) (sts : List (String × String × String × Nat)) (Y : zx_Y) (aos : List String) (dt : List (List Nat)) (M : zx_M) : Prop :=
  p.tables.exec = Jvm.exec ∧ c.code = cc ∧ s.vm.findClass own = some m.cls ∧ (∀ w ∈ Ts, w.before args s = true) ∧ (∀ w ∈ nw, va_Nw w s) ∧ (∀ q, s.heap.size ≤ q → A q) ∧ (R.cells = (zx_mR M).1 ∧ R.slots = (zx_mR M).2) ∧ (zx_mB M = true → meth.name = "<init>") ∧ zx_mV M = nL ∧ zx_CX ex A s s.heap sts Y ∧ (∀ C ∈ aos, va_AO C s) ∧ zx_CK cl Ts dt ∧ zx_MK own cl Ts nw sts aos M
/-- the script, where there is one -/
def zx_SX (b : Nat) (xs : Nat → Int32) (A : Nat → Prop) (s : State) (M : zx_M) (ρ : List Int) : Prop :=
  zx_mX M = true → ∃ L : Nat, va_X b L xs s s.heap ∧ b < s.heap.size ∧ ¬ A b ∧ L < 2 ^ 31 ∧ ρ[0]? = some (L : Int) ∧ ∀ j, j < 6 → ρ[1 + j]? = some (xs j).toInt
theorem zx_set_same {α : Type} {l : List α} {i : Nat} {a : α} (h : l[i]? = some a) : l.set i a = l := by
  apply List.ext_getElem?
  intro j
  rw [List.getElem?_set]
  by_cases hj : i = j
  · subst hj
    rw [if_pos rfl, if_pos (List.getElem?_eq_some_iff.mp h).1, h]
  · rw [if_neg hj]
theorem zx_as_set {ws : va_W} {i a : Nat} {e0 e : va_E} (h : ws[i]? = some (a, e0)) : zx_as (ws.set i (a, e)) = zx_as ws := by
  unfold zx_as
  rw [List.map_set]
  refine zx_set_same ?_
  rw [List.getElem?_map, h]
  rfl
section ZXH
variable {p : Program} {l : Launch} {e : Env} {R : Room} {s : State} {m : MethodId} {args : Array Value} {below : List Frame} {meth : Method} {c : Code} {Q : State → Prop}
variable {D : va_G} {cl : List vw_C} {A : Nat → Prop} {b : Nat} {ex ad0 : List Nat} {nL : Nat} {ρ : List Int} {G : zx_G} {h : List zx_C} {lv : List (Nat × zx_V)} {k : Nat × Nat} {sk : List zx_V} {H : Heap} {locs : List Loc} {ls : Array Slot} {kc : List Value} {tys : List (ClassId × FieldType)} {ws : va_W} {lc : List (Nat × Value)}
variable {cc : ByteArray} {pc : Nat} {M : zx_M} {z : List (Nat × zx_T)} {own : String} {Ts nw : List Jvm.Cond} {sts : List (String × String × String × Nat)} {Y : zx_Y} {aos : List String} {dt : List (List Nat)} {xs : Nat → Int32}
theorem zx_cell (B : zx_B D cl A b ex ad0 nL s ρ h lv sk H locs ls kc tys ws lc) {i a : Nat} {q : zx_C} (hi : ¬ i < 64) (ha : zx_ad ex (zx_as ws) i = some a) (hc : h[i - 64]? = some q) : ∃ en, ws[i - 64]? = some (a, en) ∧ zx_RC cl b ex ρ (zx_as ws) tys q en := by
  obtain ⟨⟨a', en⟩, h1, h2⟩ := zx_F2_get B.2.2.2.2.1 hc
  rw [zx_ad, if_neg hi, List.getElem?_map, h1] at ha
  have h3 : a' = a := Option.some.inj ha
  subst h3
  exact ⟨en, h1, h2⟩
theorem zx_B_set (B : zx_B D cl A b ex ad0 nL s ρ h lv sk H locs ls kc tys ws lc) {i a : Nat} {e0 en : va_E} {q : zx_C} (hw : ws[i]? = some (a, e0)) (hq : zx_RC cl b ex ρ (zx_as ws) tys q en) {H1 : Heap} {locs1 : List Loc} (P1 : va_P D cl (ws.set i (a, en)) H1) (D1 : va_D A (ws.set i (a, en))) (S1 : va_S A s.heap H1 locs1) : zx_B D cl A b ex ad0 nL s ρ (h.set i q) lv sk H1 locs1 ls kc tys (ws.set i (a, en)) lc := by
  obtain ⟨h1, h2, h3, h4, h5, h6, h7, h8⟩ := B
  refine ⟨h1, P1, D1, ⟨S1, by rw [zx_as_set hw]; exact h4.2⟩, ?_, ?_, h7, ?_⟩
  · rw [zx_as_set hw]
    exact zx_F2_set (R := fun c q => zx_RC cl b ex ρ (zx_as ws) tys c q.2) (b := (a, en)) hq i h5
  · rw [zx_as_set hw]; exact h6
  · rw [zx_as_set hw]; exact h8
theorem zx_xslot_W {pc' : Nat} {sl : zx_S} {x : Value} (hG : zx_ok ρ G) (B : zx_B D cl A b ex ad0 nL s ρ h lv sk H locs ls kc tys ws lc) (hz : zx_xslot pc' G h lv k sk sl = some z) (hx : zx_RS b ex ρ (zx_as ws) sl x) (K : zx_KK p l e R s m args below meth c Q D cl A b ex ad0 nL ρ z) : W p l e R s m args below meth c H locs k.1 k.2 Q (F0 m pc' ls (x :: kc)) := by
  unfold zx_xslot at hz
  rcases sl with v | t
  · exact zx_push_W hG B hz hx K
  · obtain ⟨w, h1, h2, h3⟩ := hx
    subst h1
    refine zx_go_W B hz (fun q hq => ?_) K
    cases hq
    exact zx_fr_ok hG h2 h3
theorem zx_xget_ok {ix : Nat} (F : zx_FX p s m args meth c R cc own Ts nw cl A ex nL sts Y aos dt M) (hd : decode cc pc = .ok (.getfield ix, 3)) (hG : zx_ok ρ G) (B : zx_B D cl A b ex ad0 nL s ρ h lv sk H locs ls kc tys ws lc) (hz : zx_xget M pc G h lv k sk ix = some z) (K : zx_KK p l e R s m args below meth c Q D cl A b ex ad0 nL ρ z) : W p l e R s m args below meth c H locs k.1 k.2 Q (F0 m pc ls kc) := by
  obtain ⟨hx, hb, hown, hts, hnw, hA, hR, hin, hnL, hCX, hao, hCK, hMK⟩ := F
  unfold zx_xget at hz
  split at hz
  · rename_i q hq
    split at hz
    · rename_i ids r
      obtain ⟨x, kr, rfl, hv, B1⟩ := zx_top1 B
      rcases hv with ⟨h4, -⟩ | ⟨i0, a, h4, h5, rfl⟩
      · cases h4
      · obtain ⟨y, h6, h7⟩ := zx_all_ok hz h4
        have K' : zx_KK p l e R s m args below meth c Q D cl A b ex ad0 nL ρ y := fun q hq => K q (h7 q hq)
        unfold zx_xget1 at h6
        split at h6
        · cases h6
        · rename_i hi
          split at h6
          · rename_i o ho
            split at h6
            · rename_i hoq
              split at h6
              · rename_i sl hsl
                obtain ⟨en, g1, fs, rfl, g2⟩ := zx_cell B1 hi h5 ho
                obtain ⟨fv, g3, g4⟩ := zx_F2_get g2 hsl
                obtain ⟨C, T, N, ty, m1, m2, m3, m4, m5, m6, m7⟩ := hMK.1 ix q hq
                exact va_get (D := D) (C := C) (T := T) (N := N) hx hb hts (hCK _ _ _ _ m1).1 hown B1.1 B1.2.1 (i0 - 64) g1 (by rw [hoq]; exact m1) q.2.1 m2 (hts _ m3) (fun _ h9 => h9) g3 hd (zx_xslot_W hG B1 h6 g4 K')
              · cases h6
            · cases h6
          · cases h6
    · cases hz
  · cases hz
theorem zx_xput_ok {ix : Nat} (F : zx_FX p s m args meth c R cc own Ts nw cl A ex nL sts Y aos dt M) (hd : decode cc pc = .ok (.putfield ix, 3)) (hG : zx_ok ρ G) (B : zx_B D cl A b ex ad0 nL s ρ h lv sk H locs ls kc tys ws lc) (hz : zx_xput M pc G h lv k sk ix = some z) (K : zx_KK p l e R s m args below meth c Q D cl A b ex ad0 nL ρ z) : W p l e R s m args below meth c H locs k.1 k.2 Q (F0 m pc ls kc) := by
  obtain ⟨hx, hb, hown, hts, hnw, hA, hR, hin, hnL, hCX, hao, hCK, hMK⟩ := F
  unfold zx_xput at hz
  split at hz
  · rename_i q hq
    split at hz
    · rename_i v id r
      obtain ⟨x, kr0, rfl, hv, B0⟩ := zx_top1 B
      obtain ⟨x2, kr, rfl, hv2, B1⟩ := zx_top1 B0
      split at hz
      · cases hz
      · rename_i hi
        rcases hv2 with ⟨h4, -⟩ | ⟨i0, a, h4, h5, rfl⟩
        · cases h4
        · have hid : i0 = id := List.mem_singleton.mp h4
          subst hid
          split at hz
          · rename_i o ho
            split at hz
            · rename_i hc
              obtain ⟨c1, c2, c3, c4⟩ := hc
              obtain ⟨en, g1, fs, rfl, g2⟩ := zx_cell B1 hi h5 ho
              obtain ⟨C, T, N, ty, m1, m2, m3, m4, m5, m6, m7⟩ := hMK.1 ix q hq
              obtain ⟨u1, ty0, u2, u3, -⟩ := hCK _ _ _ _ m1
              obtain ⟨n1, n2⟩ := zx_fit_ok (ty := ty) hG (by rw [m5]; exact c3) hv
              have hl : q.2.1 < fs.length := by rw [← zx_F2_len g2]; exact c2
              have fin : ∀ (H1 : Heap) (locs1 : List Loc), va_P D cl (ws.set (i0 - 64) (a, .inr (o.1, fs.set q.2.1 x))) H1 → va_D A (ws.set (i0 - 64) (a, .inr (o.1, fs.set q.2.1 x))) → va_S A s.heap H1 locs1 → W p l e R s m args below meth c H1 locs1 k.1 k.2 Q (F0 m (pc + 3) ls kr) := by
                intro H1 locs1 P1 D1 S1
                refine zx_K1 K (zx_one hz) (zx_J_same hG (zx_B_set B1 g1 ?_ P1 D1 S1))
                exact ⟨fs.set q.2.1 x, rfl, zx_F2_set (R := zx_RS b ex ρ (zx_as ws)) (a := .inl v) hv q.2.1 g2⟩
              cases hf : q.2.2.2 with
              | false => exact va_put (D := D) (C := C) (T := T) (N := N) hx hb hts u1 ty0 u2 u3 hown B1.1 B1.2.1 B1.2.2.1 B1.2.2.2.1.1 (i0 - 64) g1 (by rw [c1]; exact m1) q.2.1 m2 (hts _ m3) (fun _ h9 => h9) (by rw [m6]; exact hf) m4 n1 n2 hl hd fin
              | true =>
                have hB : zx_mB M = true := by
                  rw [hf] at c4
                  simpa using c4
                have hdecl : (T q.2.1).1 = own := by
                  rcases m7 hf with g | g
                  · exact g
                  · rw [hB] at g; cases g
                exact va_putF (D := D) (C := C) (T := T) (N := N) hx hb hts u1 ty0 u2 u3 hown B1.1 B1.2.1 B1.2.2.1 B1.2.2.2.1.1 (i0 - 64) g1 (by rw [c1]; exact m1) q.2.1 m2 (hts _ m3) (fun _ h9 => h9) (by rw [m6]; exact hf) (hin hB) hdecl m4 n1 n2 hl hd fin
            · cases hz
          · cases hz
    · cases hz
  · cases hz
theorem zx_cl {w : Int32} {t : Int} (h : w.toInt = t) : w.toNatClampNeg = t.toNat := by rw [← h]; rfl
theorem zx_xal1_W {pc' : Nat} {ar : Nat × Nat × Bool × List zx_S} {e1 : zx_L} {G1 : zx_G} {w : Int32} {el : Nat → Value} (hG : zx_ok ρ G1) (B : zx_B D cl A b ex ad0 nL s ρ h lv sk H locs ls kc tys ws lc) (he : zx_ev ρ e1 = some w.toInt) (hz : zx_xal1 pc' h lv k sk ar e1 G1 = some z) (hel : zx_RA b ex ρ (zx_as ws) ar.2.1 ar.2.2.1 ar.2.2.2 el) (K : zx_KK p l e R s m args below meth c Q D cl A b ex ad0 nL ρ z) : vp_in w ar.2.1 ∧ W p l e R s m args below meth c H locs k.1 k.2 Q (F0 m (pc' + 1) ls (el w.toNatClampNeg :: kc)) := by
  unfold zx_xal1 at hz
  split at hz
  · cases hz
  · rename_i t ht
    obtain ⟨q1, q2⟩ := zx_rng_ok hG ht he
    split at hz
    · rename_i hc
      obtain ⟨c1, c2⟩ := hc
      refine ⟨vp_in_iff.mpr ⟨by omega, by omega⟩, ?_⟩
      have hw : w.toNatClampNeg < ar.2.1 := by
        show w.toInt.toNat < ar.2.1
        omega
      split at hz
      · rename_i hs
        rw [hs] at hel
        obtain ⟨sl, h1, h2⟩ := hel
        rw [h1] at hz
        exact zx_xslot_W hG B hz (h2 _ hw) K
      · rename_i hs
        have hs : ar.2.2.1 = false := by simpa using hs
        rw [hs] at hel
        split at hz
        · rename_i hte
          split at hz
          · rename_i sl hsl
            refine zx_xslot_W hG B hz ?_ K
            have h3 : w.toNatClampNeg = t.1.toNat := zx_cl (by omega)
            rw [h3]
            exact hel.2 _ _ hsl
          · cases hz
        · cases hz
    · cases hz
theorem zx_xal_ok {ok : Nat → Bool} (hG : zx_ok ρ G) (B : zx_B D cl A b ex ad0 nL s ρ h lv sk H locs ls kc tys ws lc) (hz : zx_xal pc G h lv k sk ok = some z) (K : zx_KK p l e R s m args below meth c Q D cl A b ex ad0 nL ρ z) : ∃ (w : Int32) (a : Nat) (kr : List Value) (i0 t0 : Nat) (cA : ClassId) (tg n : Nat), kc = .int w :: .ref a :: kr ∧ ok tg = true ∧ tys[t0]? = some (cA, zx_ty cl tg) ∧ vp_in w n ∧
    ((tg < 3 ∧ ∃ f : Nat → Int32, ws[i0]? = some (a, .inl (cA, n, .inl f)) ∧ W p l e R s m args below meth c H locs k.1 k.2 Q (F0 m (pc + 1) ls (.int (f w.toNatClampNeg) :: kr))) ∨
     (3 ≤ tg ∧ ∃ f : Nat → Option Nat, ws[i0]? = some (a, .inl (cA, n, .inr (.inr (.inr (.inr f))))) ∧ W p l e R s m args below meth c H locs k.1 k.2 Q (F0 m (pc + 1) ls (va_rf (f w.toNatClampNeg) :: kr)))) := by
  unfold zx_xal at hz
  split at hz
  · rename_i e1 ids r
    obtain ⟨w, kr0, rfl, he, B0⟩ := zx_topi B
    obtain ⟨x2, kr, rfl, hv2, B1⟩ := zx_top1 B0
    rcases hv2 with ⟨h4, -⟩ | ⟨i0, a, h4, h5, rfl⟩
    · cases h4
    · obtain ⟨y, h6, h7⟩ := zx_all_ok hz h4
      have K' : zx_KK p l e R s m args below meth c Q D cl A b ex ad0 nL ρ y := fun q hq => K q (h7 q hq)
      unfold zx_xal2 at h6
      split at h6
      · cases h6
      · rename_i hi
        split at h6
        · rename_i ar har
          split at h6
          · rename_i hok
            obtain ⟨en, g1, cA, t0, g2, g3⟩ := zx_cell B1 hi h5 har
            have main : ∀ (el : Nat → Value), zx_RA b ex ρ (zx_as ws) ar.2.1 ar.2.2.1 ar.2.2.2 el → vp_in w ar.2.1 ∧ W p l e R s m args below meth c H locs k.1 k.2 Q (F0 m (pc + 1) ls (el w.toNatClampNeg :: kr)) := by
              intro el hel
              split at h6
              · exact zx_xal1_W hG B1 he h6 hel K'
              · split at h6
                · rename_i gs hgs
                  obtain ⟨G', k1, k2⟩ := zx_split_ok hG he hgs
                  obtain ⟨y2, k3, k4⟩ := zx_all_ok h6 k1
                  exact zx_xal1_W k2 B1 he k3 hel (fun q hq => K' q (k4 q hq))
                · cases h6
            rcases g3 with ⟨g3, f, rfl, g4⟩ | ⟨g3, f, rfl, g4⟩
            · obtain ⟨r1, r2⟩ := main _ g4
              exact ⟨w, a, kr, i0 - 64, t0, cA, ar.1, ar.2.1, rfl, hok, g2, r1, Or.inl ⟨g3, f, g1, r2⟩⟩
            · obtain ⟨r1, r2⟩ := main _ g4
              exact ⟨w, a, kr, i0 - 64, t0, cA, ar.1, ar.2.1, rfl, hok, g2, r1, Or.inr ⟨g3, f, g1, r2⟩⟩
          · cases h6
        · cases h6
  · cases hz
end ZXH
end
section
/-! zx: rows written, lengths, new things, statics, the script -/
theorem zx_nar01 {w : Int32} (h1 : 0 ≤ w.toInt) (h2 : w.toInt ≤ 1) : vp_nar .boolean w = w := by
  rcases zx_01 h1 h2 with rfl | rfl <;> rfl
theorem zx_nar8 {w : Int32} (h1 : -128 ≤ w.toInt) (h2 : w.toInt ≤ 127) : vp_nar .byte w = w := by
  rw [vp_nar_byte]
  refine Int32.toInt_inj.mp ?_
  rw [Int8.toInt_toInt32, Int32.toInt_toInt8]
  exact Int.bmod_eq_of_le (by omega) (by omega)
theorem zx_RA_put {b : Nat} {ex : List Nat} {ρ : List Int} {ad : List Nat} {n : Nat} {l : List zx_S} {el : Nat → Value} {v : zx_V} {x : Value} {j : Nat} (h : zx_RA b ex ρ ad n false l el) (hv : zx_R b ex ρ ad v x) : zx_RA b ex ρ ad n false (l.set j (.inl v)) (fun i => if i = j then x else el i) := by
  refine ⟨by rw [List.length_set]; exact h.1, fun i t ht => ?_⟩
  rw [List.getElem?_set] at ht
  show zx_RS b ex ρ ad t (if i = j then x else el i)
  by_cases hj : j = i
  · subst hj
    rw [if_pos rfl] at ht ⊢
    split at ht
    · cases ht; exact hv
    · cases ht
  · rw [if_neg hj] at ht
    rw [if_neg (fun q => hj q.symm)]
    exact h.2 i t ht
theorem zx_RA_eq {b : Nat} {ex : List Nat} {ρ : List Int} {ad : List Nat} {n : Nat} {sm : Bool} {l : List zx_S} {el el' : Nat → Value} (h : zx_RA b ex ρ ad n sm l el) (he : ∀ i, el i = el' i) : zx_RA b ex ρ ad n sm l el' := by
  have : el = el' := funext he
  rw [← this]; exact h
section ZXI
variable {p : Program} {l : Launch} {e : Env} {R : Room} {s : State} {m : MethodId} {args : Array Value} {below : List Frame} {meth : Method} {c : Code} {Q : State → Prop}
variable {D : va_G} {cl : List vw_C} {A : Nat → Prop} {b : Nat} {ex ad0 : List Nat} {nL : Nat} {ρ : List Int} {G : zx_G} {h : List zx_C} {lv : List (Nat × zx_V)} {k : Nat × Nat} {sk : List zx_V} {H : Heap} {locs : List Loc} {ls : Array Slot} {kc : List Value} {tys : List (ClassId × FieldType)} {ws : va_W} {lc : List (Nat × Value)}
variable {cc : ByteArray} {pc : Nat} {M : zx_M} {z : List (Nat × zx_T)} {own : String} {Ts nw : List Jvm.Cond} {sts : List (String × String × String × Nat)} {Y : zx_Y} {aos : List String} {dt : List (List Nat)} {xs : Nat → Int32}
/-- what the writing of a place leaves -/
theorem zx_xas1_W {id a : Nat} {ar : Nat × Nat × Bool × List zx_S} {v : zx_V} {e1 : zx_L} {G1 : zx_G} {w : Int32} (hG : zx_ok ρ G1) (B : zx_B D cl A b ex ad0 nL s ρ h lv sk H locs ls kc tys ws lc) (he : zx_ev ρ e1 = some w.toInt) (hz : zx_xas1 pc h lv k sk id ar v e1 G1 = some z) (K : zx_KK p l e R s m args below meth c Q D cl A b ex ad0 nL ρ z) {en en' : va_E} (hw : ws[id - 64]? = some (a, en)) (hq : zx_RC cl b ex ρ (zx_as ws) tys (.inr (.inl (ar.1, ar.2.1, false, ar.2.2.2.set w.toNatClampNeg (.inl v)))) en') : vp_in w ar.2.1 ∧ ∀ (H1 : Heap) (locs1 : List Loc), va_P D cl (ws.set (id - 64) (a, en')) H1 → va_D A (ws.set (id - 64) (a, en')) → va_S A s.heap H1 locs1 → W p l e R s m args below meth c H1 locs1 k.1 k.2 Q (F0 m (pc + 1) ls kc) := by
  unfold zx_xas1 at hz
  split at hz
  · cases hz
  · rename_i t ht
    obtain ⟨q1, q2⟩ := zx_rng_ok hG ht he
    split at hz
    · rename_i hc
      obtain ⟨c1, c2, c3⟩ := hc
      refine ⟨vp_in_iff.mpr ⟨by omega, by omega⟩, fun H1 locs1 P1 D1 S1 => ?_⟩
      have h3 : w.toNatClampNeg = t.1.toNat := zx_cl (by omega)
      rw [h3] at hq
      exact zx_K1 K (zx_one hz) (zx_J_same hG (zx_B_set B hw hq P1 D1 S1))
    · cases hz
theorem zx_xas_ok {by_ : Bool} (hG : zx_ok ρ G) (B : zx_B D cl A b ex ad0 nL s ρ h lv sk H locs ls kc tys ws lc) (hz : zx_xas pc G h lv k sk by_ = some z) (K : zx_KK p l e R s m args below meth c Q D cl A b ex ad0 nL ρ z) : ∃ (v w : Int32) (a : Nat) (kr : List Value) (i0 t0 : Nat) (cA : ClassId) (tg n : Nat) (f : Nat → Int32), kc = .int v :: .int w :: .ref a :: kr ∧ (if by_ = true then (tg = 1 ∧ vp_nar .byte v = v) ∨ (tg = 2 ∧ vp_nar .boolean v = v) else tg = 0) ∧ tys[t0]? = some (cA, zx_ty cl tg) ∧ vp_in w n ∧ ws[i0]? = some (a, .inl (cA, n, .inl f)) ∧
    ∀ (H1 : Heap) (locs1 : List Loc), va_P D cl (ws.set i0 (a, .inl (cA, n, .inl (upd f w.toNatClampNeg v)))) H1 → va_D A (ws.set i0 (a, .inl (cA, n, .inl (upd f w.toNatClampNeg v)))) → va_S A s.heap H1 locs1 → W p l e R s m args below meth c H1 locs1 k.1 k.2 Q (F0 m (pc + 1) ls kr) := by
  unfold zx_xas at hz
  split at hz
  · rename_i v1 e1 id r
    obtain ⟨v, kr1, rfl, hv, B1⟩ := zx_topi B
    obtain ⟨w, kr2, rfl, he, B2⟩ := zx_topi B1
    obtain ⟨x3, kr, rfl, hv3, B3⟩ := zx_top1 B2
    split at hz
    · cases hz
    · rename_i hi
      rcases hv3 with ⟨h4, -⟩ | ⟨i0, a, h4, h5, rfl⟩
      · cases h4
      · have hid : i0 = id := List.mem_singleton.mp h4
        subst hid
        split at hz
        · rename_i ar tv te har htv hte
          obtain ⟨v2, v3⟩ := zx_rng_ok hG htv hv
          obtain ⟨w2, w3⟩ := zx_rng_ok hG hte he
          split at hz
          · rename_i htg
            obtain ⟨en, g1, cA, t0, g2, g3⟩ := zx_cell B3 hi h5 har
            have htg2 : if by_ = true then (ar.1 = 1 ∧ vp_nar .byte v = v) ∨ (ar.1 = 2 ∧ vp_nar .boolean v = v) else ar.1 = 0 := by
              cases by_ with
              | true =>
                rw [if_pos rfl]
                simp only [zx_bok, Bool.or_eq_true, Bool.and_eq_true, beq_iff_eq] at htg
                rcases htg with ⟨q1, q2⟩ | ⟨q1, q2⟩
                · obtain ⟨q3, q4⟩ := zx_in_iff.mp q2
                  exact Or.inl ⟨q1, zx_nar8 (by omega) (by omega)⟩
                · obtain ⟨q3, q4⟩ := zx_in_iff.mp q2
                  exact Or.inr ⟨q1, zx_nar01 (by omega) (by omega)⟩
              | false =>
                simp only [zx_bok, beq_iff_eq] at htg
                rw [if_neg (by decide)]; exact htg
            have hlt : ar.1 < 3 := by
              cases by_ with
              | true =>
                rw [if_pos rfl] at htg2
                rcases htg2 with q | q
                · rw [q.1]; decide
                · rw [q.1]; decide
              | false => rw [if_neg (by decide)] at htg2; rw [htg2]; decide
            rcases g3 with ⟨g3, f, rfl, g4⟩ | ⟨g3, f, rfl, g4⟩
            · have upe : ∀ (j : Nat), (fun j => Value.int (upd f w.toNatClampNeg v j)) j = if j = w.toNatClampNeg then .int v else .int (f j) := by
                intro j
                by_cases hj : j = w.toNatClampNeg
                · rw [if_pos hj]; simp [upd, hj]
                · rw [if_neg hj]; simp [upd, hj]
              split at hz
              · rename_i hs
                rw [hs] at g4
                split at hz
                · rename_i t hl
                  split at hz
                  · rename_i hc
                    obtain ⟨c1, c2, c3⟩ := hc
                    obtain ⟨c4, c5⟩ := zx_in_iff.mp c3
                    refine ⟨v, w, a, kr, i0 - 64, t0, cA, ar.1, ar.2.1, f, rfl, htg2, g2, vp_in_iff.mpr ⟨by omega, by omega⟩, g1, fun H1 locs1 P1 D1 S1 => ?_⟩
                    have B4 := zx_B_set B3 g1 (q := .inr (.inl ar)) (en := .inl (cA, ar.2.1, .inl (upd f w.toNatClampNeg v))) ?_ P1 D1 S1
                    · rw [zx_set_same har] at B4
                      exact zx_K1 K (zx_one hz) (zx_J_same hG B4)
                    · refine ⟨cA, t0, g2, Or.inl ⟨g3, _, rfl, ?_⟩⟩
                      rw [hs]
                      obtain ⟨sl, k1, k2⟩ := g4
                      rw [hl] at k1
                      have k1 : (.inr t : zx_S) = sl := by cases k1; rfl
                      subst k1
                      refine ⟨.inr t, hl, fun j hj => ?_⟩
                      rw [upe j]
                      split
                      · exact ⟨v, rfl, by omega, by omega⟩
                      · exact k2 j hj
                  · cases hz
                · cases hz
              · rename_i hs
                have hs : ar.2.2.1 = false := by simpa using hs
                rw [hs] at g4
                split at hz
                · rename_i gs hgs
                  obtain ⟨G', k1, k2⟩ := zx_split_ok hG he hgs
                  obtain ⟨y2, k3, k4⟩ := zx_all_ok hz k1
                  have hq : zx_RC cl b ex ρ (zx_as ws) tys (.inr (.inl (ar.1, ar.2.1, false, ar.2.2.2.set w.toNatClampNeg (.inl (.inl v1))))) (.inl (cA, ar.2.1, .inl (upd f w.toNatClampNeg v))) :=
                    ⟨cA, t0, g2, Or.inl ⟨g3, _, rfl, zx_RA_eq (zx_RA_put (j := w.toNatClampNeg) (v := .inl v1) (x := .int v) g4 ⟨v, rfl, hv⟩) (fun j => (upe j).symm)⟩⟩
                  obtain ⟨r1, r2⟩ := zx_xas1_W k2 B3 he k3 (fun q hq => K q (k4 q hq)) g1 hq
                  exact ⟨v, w, a, kr, i0 - 64, t0, cA, ar.1, ar.2.1, f, rfl, htg2, g2, r1, g1, r2⟩
                · cases hz
            · omega
          · cases hz
        · cases hz
  · cases hz
theorem zx_xqs_ok (F : zx_FX p s m args meth c R cc own Ts nw cl A ex nL sts Y aos dt M) (hd : decode cc pc = .ok (.aastore, 1)) (hG : zx_ok ρ G) (B : zx_B D cl A b ex ad0 nL s ρ h lv sk H locs ls kc tys ws lc) (hz : zx_xqs pc G h lv k sk = some z) (K : zx_KK p l e R s m args below meth c Q D cl A b ex ad0 nL ρ z) : W p l e R s m args below meth c H locs k.1 k.2 Q (F0 m pc ls kc) := by
  obtain ⟨hx, hb, hown, hts, hnw, hA, hR, hin, hnL, hCX, hao, hCK, hMK⟩ := F
  unfold zx_xqs at hz
  split at hz
  · rename_i iv e1 id r
    obtain ⟨x1, kr1, rfl, hv, B1⟩ := zx_top1 B
    obtain ⟨w, kr2, rfl, he, B2⟩ := zx_topi B1
    obtain ⟨x3, kr, rfl, hv3, B3⟩ := zx_top1 B2
    split at hz
    · cases hz
    · rename_i hi
      have hi1 : ¬ id < 64 := fun q => hi (Or.inl q)
      have hi2 : ¬ iv < 64 := fun q => hi (Or.inr q)
      rcases hv3 with ⟨h4, -⟩ | ⟨i0, a, h4, h5, rfl⟩
      · cases h4
      · have hid : i0 = id := List.mem_singleton.mp h4
        subst hid
        rcases id hv with ⟨h6, -⟩ | ⟨i1, av, h6, h7, rfl⟩
        · cases h6
        · have hid : i1 = iv := List.mem_singleton.mp h6
          subst hid
          split at hz
          · rename_i ar o har ho
            split at hz
            · rename_i hc
              obtain ⟨c1, hs⟩ := hc
              obtain ⟨en, g1, cA, t0, g2, g3⟩ := zx_cell B3 hi1 h5 har
              obtain ⟨en2, f1, fs, rfl, f2⟩ := zx_cell B3 hi2 h7 ho
              obtain ⟨rr, hc1, -⟩ := B3.2.1 _ _ f1
              have hty : zx_ty cl ar.1 = .object rr.1 := by
                rw [c1, Nat.add_comm 3 o.1]
                show FieldType.object ((cl[o.1]?.map (fun q => q.1)).getD "") = _
                rw [hc1]; rfl
              rcases g3 with ⟨g3, -⟩ | ⟨g3, f, rfl, g4⟩
              · omega
              · split at hz
                · rename_i gs hgs
                  obtain ⟨G', k1, k2⟩ := zx_split_ok hG he hgs
                  obtain ⟨y2, k3, k4⟩ := zx_all_ok hz k1
                  rw [hs] at g4
                  have upe : ∀ (j : Nat), (fun j => va_rf (va_up f w.toNatClampNeg (some av) j)) j = if j = w.toNatClampNeg then .ref av else va_rf (f j) := by
                    intro j
                    by_cases hj : j = w.toNatClampNeg
                    · rw [if_pos hj]; simp [va_up, hj, va_rf]
                    · rw [if_neg hj]; simp [va_up, hj]
                  have hq : zx_RC cl b ex ρ (zx_as ws) tys (.inr (.inl (ar.1, ar.2.1, false, ar.2.2.2.set w.toNatClampNeg (.inl (.inr (.inl ([i1], false))))))) (.inl (cA, ar.2.1, .inr (.inr (.inr (.inr (va_up f w.toNatClampNeg (some av))))))) :=
                    ⟨cA, t0, g2, Or.inr ⟨g3, _, rfl, zx_RA_eq (zx_RA_put (j := w.toNatClampNeg) (v := .inr (.inl ([i1], false))) (x := .ref av) g4 hv) (fun j => (upe j).symm)⟩⟩
                  obtain ⟨r1, r2⟩ := zx_xas1_W k2 B3 he k3 (fun q hq => K q (k4 q hq)) g1 hq
                  exact va_astq hx hb B.1 B.2.1 B.2.2.1 B.2.2.2.1.1 (i0 - 64) t0 (i1 - 64) o.1 (r := rr) g1 (by rw [← hty]; exact g2) f1 hc1 r1 hd r2
                · cases hz
            · cases hz
          · cases hz
  · cases hz
theorem zx_xlen_ok (F : zx_FX p s m args meth c R cc own Ts nw cl A ex nL sts Y aos dt M) (hd : decode cc pc = .ok (.arraylength, 1)) (hG : zx_ok ρ G) (B : zx_B D cl A b ex ad0 nL s ρ h lv sk H locs ls kc tys ws lc) (hz : zx_xlen pc G h lv k sk = some z) (K : zx_KK p l e R s m args below meth c Q D cl A b ex ad0 nL ρ z) : W p l e R s m args below meth c H locs k.1 k.2 Q (F0 m pc ls kc) := by
  obtain ⟨hx, hb, hown, hts, hnw, hA, hR, hin, hnL, hCX, hao, hCK, hMK⟩ := F
  unfold zx_xlen at hz
  split at hz
  · rename_i ids r
    obtain ⟨x, kr, rfl, hv, B1⟩ := zx_top1 B
    rcases hv with ⟨h4, -⟩ | ⟨i0, a, h4, h5, rfl⟩
    · cases h4
    · obtain ⟨y, h6, h7⟩ := zx_all_ok hz h4
      have K' : zx_KK p l e R s m args below meth c Q D cl A b ex ad0 nL ρ y := fun q hq => K q (h7 q hq)
      unfold zx_xlen1 at h6
      split at h6
      · cases h6
      · rename_i hi
        split at h6
        · rename_i ar har
          split at h6
          · rename_i hn
            obtain ⟨en, g1, cA, t0, g2, g3⟩ := zx_cell B1 hi h5 har
            have hv : ∀ w : Int32, Int32.ofNat ar.2.1 = w → zx_R b ex ρ (zx_as ws) (.inl ([], (ar.2.1 : Int))) (.int w) := by
              intro w hw
              refine ⟨w, rfl, ?_⟩
              rw [← hw, Int32.toInt_ofNat_of_lt hn]
              exact zx_ev_iff.mpr ⟨0, rfl, by simp⟩
            rcases g3 with ⟨g3, f, rfl, g4⟩ | ⟨g3, f, rfl, g4⟩
            · exact va_alen hx hb B1.1 B1.2.1 (i0 - 64) t0 (x := (ar.2.1, .inl f)) g1 g2 rfl hd (zx_push_W hG B1 h6 (hv _ rfl) K')
            · exact va_alen hx hb B1.1 B1.2.1 (i0 - 64) t0 (x := (ar.2.1, .inr (.inr (.inr (.inr f))))) g1 g2 rfl hd (zx_push_W hG B1 h6 (hv _ rfl) K')
          · cases h6
        · cases h6
  · cases hz
/-- one cell more -/
theorem zx_J_new {q : zx_C} {a : Nat} {en : va_E} {ty : List (ClassId × FieldType)} {kr : List Value} {sr : List zx_V} {H1 : Heap} {locs1 : List Loc} (hG : zx_ok ρ G) (B : zx_B D cl A b ex ad0 nL s ρ h lv sr H locs ls kr tys ws lc) (K1 : va_K D cl (tys ++ ty) s) (P1 : va_P D cl (ws ++ [(a, en)]) H1) (D1 : va_D A (ws ++ [(a, en)])) (S1 : va_S A s.heap H1 locs1) (hq : zx_RC cl b ex ρ (zx_as ws) (tys ++ ty) q en) : zx_J D cl A b ex ad0 nL s (ρ ++ []) G (h ++ [q]) lv (.inr (.inl ([64 + h.length], false)) :: sr) H1 locs1 ls (.ref a :: kr) := by
  obtain ⟨h1, h2, h3, h4, h5, h6, h7, h8⟩ := B
  rw [List.append_nil]
  have has : zx_as (ws ++ [(a, en)]) = zx_as ws ++ [a] := by unfold zx_as; rw [List.map_append]; rfl
  have hup : ∀ (c : zx_C) (q : Nat × va_E), zx_RC cl b ex ρ (zx_as ws) tys c q.2 → zx_RC cl b ex ρ (zx_as ws ++ [a]) (tys ++ ty) c q.2 := by
    intro c q hc
    have := zx_RC_app (r := []) (q := [a]) (ty := ty) hc
    rwa [List.append_nil] at this
  have hupv : ∀ (v : zx_V) (x : Value), zx_R b ex ρ (zx_as ws) v x → zx_R b ex ρ (zx_as ws ++ [a]) v x := by
    intro v x hv
    have := zx_R_app (r := []) (q := [a]) hv
    rwa [List.append_nil] at this
  refine ⟨hG, tys ++ ty, ws ++ [(a, en)], lc, K1, P1, D1, ⟨S1, by obtain ⟨xt, hxt⟩ := h4.2; exact ⟨xt ++ [a], by rw [has, hxt, List.append_assoc]⟩⟩, ?_, ?_, h7, ?_⟩
  · rw [has]
    refine zx_F2_app (l' := [q]) (m' := [(a, en)]) ⟨?_, trivial⟩ (zx_F2_imp hup h5)
    have := zx_RC_app (r := []) (q := [a]) (ty := []) hq
    rwa [List.append_nil, List.append_nil] at this
  · rw [has]
    exact zx_F2_imp (fun _ _ q => ⟨q.1, hupv _ _ q.2⟩) h6
  · rw [has]
    refine ⟨Or.inr ⟨64 + h.length, a, List.mem_singleton.mpr rfl, ?_, rfl⟩, zx_F2_imp hupv h8⟩
    rw [zx_ad, if_neg (by omega), show 64 + h.length - 64 = (zx_as ws).length by rw [zx_F2_len h5]; unfold zx_as; rw [List.length_map]; omega]
    simp
theorem zx_dvs {ad : List Nat} : ∀ d : List Nat, zx_F2 (zx_RS b ex ρ ad) (d.map zx_dv) (d.map zx_dV)
  | [] => trivial
  | t :: r => ⟨zx_dv_ok t, zx_dvs r⟩
theorem zx_xnew_ok {ix : Nat} (F : zx_FX p s m args meth c R cc own Ts nw cl A ex nL sts Y aos dt M) (hd : decode cc pc = .ok (.new ix, 3)) (hG : zx_ok ρ G) (B : zx_B D cl A b ex ad0 nL s ρ h lv sk H locs ls kc tys ws lc) (hz : zx_xnew M pc G h lv k sk ix dt = some z) (K : zx_KK p l e R s m args below meth c Q D cl A b ex ad0 nL ρ z) : W p l e R s m args below meth c H locs k.1 k.2 Q (F0 m pc ls kc) := by
  obtain ⟨hx, hb, hown, hts, hnw, hA, hR, hin, hnL, hCX, hao, hCK, hMK⟩ := F
  unfold zx_xnew at hz
  split at hz
  · rename_i ci hci
    split at hz
    · rename_i d hdt
      split at hz
      · rename_i hc
        obtain ⟨hix, hc⟩ := hc
        obtain ⟨C, T, N, m1, m9, -⟩ := hMK.2.2.1 ix ci hci
        obtain ⟨m2, m3, m4⟩ := m9 hix
        obtain ⟨u1, ty0, u2, u3, u4⟩ := hCK _ _ _ _ m1
        obtain ⟨u5, u6⟩ := u4 d hdt
        rw [← hR.1, ← hR.2, u5] at hc
        refine va_new (C := C) (T := T) (N := N) (ci := ci) (fs := d.map zx_dV) hx hb hts u1 ty0 u2 hown (hts _ m2) (hts _ m3) (hts _ m4) B.1 B.2.1 B.2.2.1 B.2.2.2.1.1 hA m1 (fun j hj => ?_) hc.1 hc.2 hd (fun a H1 P1 D1 S1 => ?_)
        · obtain ⟨q1, q2⟩ := u6 j hj
          rw [zx_dV_ty q2, vp_V, List.getD_eq_getElem?_getD, List.getElem?_map, q1]
          rfl
        · have J := zx_J_new (q := .inl (ci, d.map zx_dv)) (ty := []) hG B (by rw [List.append_nil]; exact B.1) P1 D1 S1 ⟨d.map zx_dV, rfl, ?_⟩
          · have hz2 := zx_one hz
            rw [u5] at hz2
            exact zx_K1 K hz2 J
          · exact zx_dvs d
      · cases hz
    · cases hz
  · cases hz
theorem zx_cN {x : Int32} {n : Int} (h : x.toInt = n) (h0 : 0 ≤ n) : ¬ x < 0 ∧ x.toNatClampNeg = n.toNat := by
  refine ⟨fun q => ?_, zx_cl h⟩
  have := Int32.lt_iff_toInt_lt.mp q
  rw [h] at this
  have h9 : (0 : Int32).toInt = 0 := rfl
  omega
theorem zx_RA_rep {n : Nat} {ad : List Nat} {t : zx_S} {x : Value} (h : zx_RS b ex ρ ad t x) : zx_RA b ex ρ ad n false (List.replicate n t) (fun _ => x) := by
  refine ⟨List.length_replicate, fun j t' ht => ?_⟩
  have := List.mem_of_getElem? ht
  rw [(List.mem_replicate.mp this).2]; exact h
theorem zx_xna_ok {at_ : ArrayType} (F : zx_FX p s m args meth c R cc own Ts nw cl A ex nL sts Y aos dt M) (harr : ∀ ty : FieldType, newarray.typeOf at_ = ty → Jvm.Cond.arrayClass ty ∈ Ts) (hd : decode cc pc = .ok (.newarray at_, 2)) (hG : zx_ok ρ G) (B : zx_B D cl A b ex ad0 nL s ρ h lv sk H locs ls kc tys ws lc) (hz : zx_xna M pc G h lv k sk at_ = some z) (K : zx_KK p l e R s m args below meth c Q D cl A b ex ad0 nL ρ z) : W p l e R s m args below meth c H locs k.1 k.2 Q (F0 m pc ls kc) := by
  obtain ⟨hx, hb, hown, hts, hnw, hA, hR, hin, hnL, hCX, hao, hCK, hMK⟩ := F
  unfold zx_xna at hz
  split at hz
  · rename_i e1 r
    obtain ⟨w, kr, rfl, he, B1⟩ := zx_topi B
    split at hz
    · rename_i hc
      obtain ⟨c1, c2, c3, c4, c5⟩ := hc
      have hw := zx_isc_ev c1 he
      obtain ⟨n1, n2⟩ := zx_cN hw c2
      rw [← hR.1] at c4
      rw [← hR.2] at c5
      have hsz : ∀ q : Nat, q ≤ 8 → e1.2.toNat * q ≤ 536870912 := by
        intro q hq
        have h9 : e1.2.toNat ≤ 1000000 := by omega
        calc e1.2.toNat * q ≤ 1000000 * 8 := Nat.mul_le_mul h9 hq
          _ ≤ 536870912 := by decide
      split at hz
      · rename_i h3
        have hat : at_ = .long := by cases at_ <;> first | rfl | exact absurd h3 (by decide)
        subst hat
        refine va_newa (ty := .long) (a0 := (e1.2.toNat, .inr (.inl (fun _ => 0)))) hx hb (hts _ (harr _ rfl)) rfl B.1 B.2.1 B.2.2.1 B.2.2.2.1.1 hA (fun _ => rfl) n1 n2 (hsz 8 (by decide)) c4 c5 hd (fun a cA H1 K1 P1 D1 S1 => ?_)
        exact zx_K1 K (zx_one hz) (zx_J_new (q := .inr (.inr e1.2.toNat)) hG B1 K1 P1 D1 S1 ⟨cA, tys.length, fun _ => 0, by simp, rfl⟩)
      · split at hz
        · rename_i h4
          have hty : newarray.typeOf at_ = zx_ty cl (zx_at at_) ∧ (∀ cA : ClassId, vp_cell cA (e1.2.toNat, .inl (fun _ => 0)) = arrV cA e1.2.toNat (fun _ => defaultValue (zx_ty cl (zx_at at_)))) ∧ componentBytes (zx_ty cl (zx_at at_)) ≤ 8 := by
            cases at_ <;> first | exact ⟨rfl, fun _ => rfl, Nat.le_of_ble_eq_true rfl⟩ | exact absurd h4 (by decide)
          have go : ∀ (q : zx_C), (∀ (cA : ClassId) (t0 : Nat) (tyy : List (ClassId × FieldType)), tyy[t0]? = some (cA, zx_ty cl (zx_at at_)) → zx_RC cl b ex ρ (zx_as ws) tyy q (.inl (cA, e1.2.toNat, .inl (fun _ => 0)))) → some [(pc + 2, G, h ++ [q], lv, .inr (.inl ([64 + h.length], false)) :: r, (k.1 + 1, k.2 + e1.2.toNat))] = some z → W p l e R s m args below meth c H locs k.1 k.2 Q (F0 m pc ls (.int w :: kr)) := by
            intro q hq hz
            refine va_newa (ty := zx_ty cl (zx_at at_)) (a0 := (e1.2.toNat, .inl (fun _ => 0))) hx hb (hts _ (harr _ rfl)) hty.1 B.1 B.2.1 B.2.2.1 B.2.2.2.1.1 hA hty.2.1 n1 n2 (hsz _ hty.2.2) c4 c5 hd (fun a cA H1 K1 P1 D1 S1 => ?_)
            exact zx_K1 K (zx_one hz) (zx_J_new (q := q) hG B1 K1 P1 D1 S1 (hq cA tys.length _ (by simp)))
          split at hz
          · rename_i lo hi hn
            split at hz
            · rename_i hlh
              refine go (.inr (.inl (zx_at at_, e1.2.toNat, true, [.inr (lo, hi)]))) (fun cA t0 tyy ht => ⟨cA, t0, ht, Or.inl ⟨h4, _, rfl, ⟨.inr (lo, hi), rfl, fun j hj => ⟨0, rfl, hlh.1, hlh.2⟩⟩⟩⟩) hz
            · cases hz
          · exact go (.inr (.inl (zx_at at_, e1.2.toNat, false, List.replicate e1.2.toNat (.inl (.inl ([], 0)))))) (fun cA t0 tyy ht => ⟨cA, t0, ht, Or.inl ⟨h4, _, rfl, zx_RA_rep (t := .inl (.inl ([], 0))) (x := .int 0) ⟨0, rfl, rfl⟩⟩⟩) hz
          · cases hz
        · cases hz
    · cases hz
  · cases hz
theorem zx_xnq_ok {ix : Nat} (F : zx_FX p s m args meth c R cc own Ts nw cl A ex nL sts Y aos dt M) (hd : decode cc pc = .ok (.anewarray ix, 3)) (hG : zx_ok ρ G) (B : zx_B D cl A b ex ad0 nL s ρ h lv sk H locs ls kc tys ws lc) (hz : zx_xnq M pc G h lv k sk ix = some z) (K : zx_KK p l e R s m args below meth c Q D cl A b ex ad0 nL ρ z) : W p l e R s m args below meth c H locs k.1 k.2 Q (F0 m pc ls kc) := by
  obtain ⟨hx, hb, hown, hts, hnw, hA, hR, hin, hnL, hCX, hao, hCK, hMK⟩ := F
  unfold zx_xnq at hz
  split at hz
  · rename_i e1 r
    obtain ⟨w, kr, rfl, he, B1⟩ := zx_topi B
    split at hz
    · rename_i ci hci
      split at hz
      · rename_i hc
        obtain ⟨c0, c1, c2, c3, c4, c5⟩ := hc
        have hw := zx_isc_ev c1 he
        obtain ⟨n1, n2⟩ := zx_cN hw c2
        rw [← hR.1] at c4
        rw [← hR.2] at c5
        obtain ⟨C, T, N, m1, -, m9⟩ := hMK.2.2.1 (ix + 65536) ci hci
        obtain ⟨m2, m5⟩ := m9 (by omega)
        rw [Nat.add_sub_cancel] at m2
        refine va_newq (C := C) hx hb hown (hts _ m2) (hao _ m5) B.1 B.2.1 B.2.2.1 B.2.2.2.1.1 hA n1 n2 (by omega) c4 c5 hd (fun a cA H1 K1 P1 D1 S1 => ?_)
        refine zx_K1 K (zx_one hz) (zx_J_new (q := .inr (.inl (3 + ci, e1.2.toNat, false, List.replicate e1.2.toNat (.inl (.inr (.inl ([], true))))))) hG B1 K1 P1 D1 S1 ⟨cA, tys.length, ?_, Or.inr ⟨by show 3 ≤ 3 + ci; omega, fun _ => none, rfl, zx_RA_rep (t := .inl (.inr (.inl ([], true)))) (x := .null) (Or.inl ⟨rfl, rfl⟩)⟩⟩)
        rw [Nat.add_comm 3 ci]
        show (tys ++ [(cA, FieldType.object C)])[tys.length]? = some (cA, .object ((cl[ci]?.map (fun q => q.1)).getD ""))
        rw [m1]
        simp
      · cases hz
    · cases hz
  · cases hz
theorem zx_xgs_ok {ix : Nat} (F : zx_FX p s m args meth c R cc own Ts nw cl A ex nL sts Y aos dt M) (hd : decode cc pc = .ok (.getstatic ix, 3)) (hG : zx_ok ρ G) (B : zx_B D cl A b ex ad0 nL s ρ h lv sk H locs ls kc tys ws lc) (hz : zx_xgs M pc G h lv k sk ix = some z) (K : zx_KK p l e R s m args below meth c Q D cl A b ex ad0 nL ρ z) : W p l e R s m args below meth c H locs k.1 k.2 Q (F0 m pc ls kc) := by
  obtain ⟨hx, hb, hown, hts, hnw, hA, hR, hin, hnL, hCX, hao, hCK, hMK⟩ := F
  unfold zx_xgs at hz
  split at hz
  · rename_i id hid
    split at hz
    · rename_i hi
      obtain ⟨t, t1, t2, t3⟩ := hMK.2.1 ix id hid
      obtain ⟨a, a1, a2⟩ := hCX.1 t t1
      have hv : zx_R b ex ρ (zx_as ws) (.inr (.inl ([id], false))) (.ref a) := Or.inr ⟨id, a, List.mem_singleton.mpr rfl, by rw [zx_ad, if_pos hi, ← t2]; exact a1, rfl⟩
      rcases t3 with t3 | ⟨host, t3⟩
      · exact va_gets hx hb a2 B.2.2.2.1.1 hown (hts _ t3) (fun _ h9 => h9) hd (zx_push_W hG B hz hv K)
      · exact va_getsN hx hb a2 B.2.2.2.1.1 hown (va_Nw.use rfl (hnw _ t3)) (fun _ h9 => h9) hd (zx_push_W hG B hz hv K)
    · cases hz
  · cases hz
theorem zx_xyl_ok (F : zx_FX p s m args meth c R cc own Ts nw cl A ex nL sts Y aos dt M) (hd : decode cc pc = .ok (.iaload, 1)) (hG : zx_ok ρ G) (B : zx_B D cl A b ex ad0 nL s ρ h lv sk H locs ls kc tys ws lc) (hz : zx_xyl Y pc G h lv k sk = some z) (K : zx_KK p l e R s m args below meth c Q D cl A b ex ad0 nL ρ z) : W p l e R s m args below meth c H locs k.1 k.2 Q (F0 m pc ls kc) := by
  obtain ⟨hx, hb, hown, hts, hnw, hA, hR, hin, hnL, hCX, hao, hCK, hMK⟩ := F
  unfold zx_xyl at hz
  split at hz
  · rename_i e1 id r
    obtain ⟨w, kr0, rfl, he, B0⟩ := zx_topi B
    obtain ⟨x2, kr, rfl, hv2, B1⟩ := zx_top1 B0
    split at hz
    · rename_i row hrow
      split at hz
      · rename_i gs hgs
        obtain ⟨G', k1, k2⟩ := zx_split_ok hG he hgs
        obtain ⟨y2, k3, k4⟩ := zx_all_ok hz k1
        obtain ⟨a, a0, a1, a2, a3⟩ := hCX.2 _ (zx_fd_mem hrow)
        rcases hv2 with ⟨h4, -⟩ | ⟨i0, a', h4, h5, rfl⟩
        · cases h4
        · have hid : i0 = id := List.mem_singleton.mp h4
          subst hid
          rw [zx_ad, if_pos a0, a1] at h5
          have h5 : a = a' := Option.some.inj h5
          subst h5
          unfold zx_xyl1 at k3
          split at k3
          · cases k3
          · rename_i t ht
            obtain ⟨q1, q2⟩ := zx_rng_ok k2 ht he
            split at k3
            · rename_i hc
              obtain ⟨c1, c2, c3⟩ := hc
              have hw : w.toNatClampNeg = t.1.toNat := zx_cl (by omega)
              refine va_ti hx hb a3 B.2.2.2.1.1 (vp_in_iff.mpr ⟨by omega, by show w.toInt < (row.length : Int); omega⟩) rfl hd ?_
              refine zx_push_W k2 B1 k3 ⟨_, rfl, ?_⟩ (fun q hq => K q (k4 q hq))
              rw [hw]
              have hl : t.1.toNat < row.length := by omega
              have hmem : row.getD t.1.toNat 0 ∈ row := by
                rw [List.getD_eq_getElem?_getD, List.getElem?_eq_getElem hl]
                exact List.getElem_mem hl
              rw [zx_ofI (a2 _ hmem).1 (a2 _ hmem).2]
              exact zx_ev_iff.mpr ⟨0, rfl, by simp⟩
            · cases k3
      · cases hz
    · cases hz
  · cases hz
theorem zx_xyn_ok (F : zx_FX p s m args meth c R cc own Ts nw cl A ex nL sts Y aos dt M) (hd : decode cc pc = .ok (.arraylength, 1)) (hG : zx_ok ρ G) (B : zx_B D cl A b ex ad0 nL s ρ h lv sk H locs ls kc tys ws lc) (hz : zx_xyn Y pc G h lv k sk = some z) (K : zx_KK p l e R s m args below meth c Q D cl A b ex ad0 nL ρ z) : W p l e R s m args below meth c H locs k.1 k.2 Q (F0 m pc ls kc) := by
  obtain ⟨hx, hb, hown, hts, hnw, hA, hR, hin, hnL, hCX, hao, hCK, hMK⟩ := F
  unfold zx_xyn at hz
  split at hz
  · rename_i id r
    obtain ⟨x2, kr, rfl, hv2, B1⟩ := zx_top1 B
    split at hz
    · rename_i row hrow
      split at hz
      · rename_i hn
        obtain ⟨a, a0, a1, a2, a3⟩ := hCX.2 _ (zx_fd_mem hrow)
        rcases hv2 with ⟨h4, -⟩ | ⟨i0, a', h4, h5, rfl⟩
        · cases h4
        · have hid : i0 = id := List.mem_singleton.mp h4
          subst hid
          rw [zx_ad, if_pos a0, a1] at h5
          have h5 : a = a' := Option.some.inj h5
          subst h5
          refine va_tlen hx hb a3 B.2.2.2.1.1 rfl hd (zx_push_W hG B1 hz ⟨_, rfl, ?_⟩ K)
          show zx_ev ρ ([], (row.length : Int)) = some (Int32.ofNat row.length).toInt
          rw [Int32.toInt_ofNat_of_lt hn]
          exact zx_ev_iff.mpr ⟨0, rfl, by simp⟩
      · cases hz
    · cases hz
  · cases hz
theorem zx_xsl_ok (F : zx_FX p s m args meth c R cc own Ts nw cl A ex nL sts Y aos dt M) (hS : zx_SX b xs A s M ρ) (hd : decode cc pc = .ok (.iaload, 1)) (hG : zx_ok ρ G) (B : zx_B D cl A b ex ad0 nL s ρ h lv sk H locs ls kc tys ws lc) (hz : zx_xsl M pc G h lv k sk = some z) (K : zx_KK p l e R s m args below meth c Q D cl A b ex ad0 nL ρ z) : W p l e R s m args below meth c H locs k.1 k.2 Q (F0 m pc ls kc) := by
  obtain ⟨hx, hb, hown, hts, hnw, hA, hR, hin, hnL, hCX, hao, hCK, hMK⟩ := F
  unfold zx_xsl at hz
  split at hz
  · rename_i e1 r
    obtain ⟨w, kr0, rfl, he, B0⟩ := zx_topi B
    obtain ⟨x2, kr, rfl, hv2, B1⟩ := zx_top1 B0
    have hv2 : x2 = .ref b := hv2
    subst hv2
    split at hz
    · rename_i t b0 ht hb0
      obtain ⟨q1, q2⟩ := zx_rng_ok hG ht he
      split at hz
      · rename_i hc
        obtain ⟨c1, c2, c3, c4, c5⟩ := hc
        obtain ⟨L, s1, s2, s3, s4, s5, s6⟩ := hS c5
        obtain ⟨g1, g2⟩ := hG.2 _ _ _ s5 hb0
        have hw : w.toNatClampNeg = t.1.toNat := zx_cl (by omega)
        refine va_sld hx hb s1 s2 s3 B.2.2.2.1.1 (vp_in_iff.mpr ⟨by omega, by omega⟩) hd ?_
        refine zx_push_W hG B1 hz ⟨_, rfl, ?_⟩ K
        rw [hw]
        refine zx_ev_iff.mpr ⟨(xs t.1.toNat).toInt, zx_evl_cons.mpr ⟨(xs t.1.toNat).toInt, 0, s6 _ (by omega), rfl, by simp⟩, by simp⟩
      · cases hz
    · cases hz
  · cases hz
theorem zx_xsn_ok (F : zx_FX p s m args meth c R cc own Ts nw cl A ex nL sts Y aos dt M) (hS : zx_SX b xs A s M ρ) (hd : decode cc pc = .ok (.arraylength, 1)) (hG : zx_ok ρ G) (B : zx_B D cl A b ex ad0 nL s ρ h lv sk H locs ls kc tys ws lc) (hz : zx_xsn M pc G h lv k sk = some z) (K : zx_KK p l e R s m args below meth c Q D cl A b ex ad0 nL ρ z) : W p l e R s m args below meth c H locs k.1 k.2 Q (F0 m pc ls kc) := by
  obtain ⟨hx, hb, hown, hts, hnw, hA, hR, hin, hnL, hCX, hao, hCK, hMK⟩ := F
  unfold zx_xsn at hz
  split at hz
  · rename_i r
    obtain ⟨x2, kr, rfl, hv2, B1⟩ := zx_top1 B
    have hv2 : x2 = .ref b := hv2
    subst hv2
    split at hz
    · rename_i hc
      obtain ⟨L, s1, s2, s3, s4, s5, s6⟩ := hS hc
      refine va_slen hx hb s1 s2 s3 B.2.2.2.1.1 hd (zx_push_W hG B1 hz ⟨_, rfl, ?_⟩ K)
      rw [Int32.toInt_ofNat_of_lt s4]
      exact zx_ev_iff.mpr ⟨(L : Int), zx_evl_cons.mpr ⟨(L : Int), 0, s5, rfl, by simp⟩, by simp⟩
    · cases hz
  · cases hz
end ZXI
end
section
/-! zx: all instructions but calls and returns -/
def zx_len (i : Instr) : Nat := match i with
  | .bipush _ => 2
  | .sipush _ => 3
  | .ldc _ => 2
  | .ldc_w _ => 3
  | .ldc2_w _ => 3
  | .iload _ => 2
  | .lload _ => 2
  | .aload _ => 2
  | .istore _ => 2
  | .lstore _ => 2
  | .astore _ => 2
  | .iinc _ _ => 3
  | .goto _ => 3
  | .ifCond _ _ => 3
  | .if_icmp _ _ => 3
  | .getfield _ => 3
  | .putfield _ => 3
  | .getstatic _ => 3
  | .new _ => 3
  | .newarray _ => 2
  | .anewarray _ => 3
  | .invokevirtual _ => 3
  | .invokespecial _ => 3
  | .invokestatic _ => 3
  | _ => 1
def zx_istab (i : Instr) : Bool := match i with
  | .tableswitch _ _ _ _ => true
  | _ => false
section ZXD
variable (M : zx_M) (Y : zx_Y) (dt : List (List Nat)) (pc : Nat) (i : Instr) (G : zx_G) (h : List zx_C) (lv : List (Nat × zx_V)) (k : Nat × Nat) (sk : List zx_V)
def zx_xiald : zx_O := match sk with
  | _ :: .inr (.inr false) :: _ => zx_xsl M pc G h lv k sk
  | _ :: .inr (.inl (id :: _, _)) :: _ => if id < 64 then zx_xyl Y pc G h lv k sk else zx_xal pc G h lv k sk (fun t => t == 0)
  | _ => none
def zx_xalen : zx_O := match sk with
  | .inr (.inr false) :: _ => zx_xsn M pc G h lv k sk
  | .inr (.inl (id :: _, _)) :: _ => if id < 64 then zx_xyn Y pc G h lv k sk else zx_xlen pc G h lv k sk
  | _ => none
def zx_xldc2 (ix : Nat) : zx_O := if zx_mL M ix = true then some [(pc + 3, G, h, lv, zx_lg :: sk, k)] else none
def zx_xlc : zx_O := some [(pc + 1, G, h, lv, zx_lg :: sk, k)]
def zx_step : zx_O := match i with
  | .iconst n => zx_xk pc G h lv k sk n (-128) 127 1
  | .bipush n => zx_xk pc G h lv k sk n (-128) 127 2
  | .sipush n => zx_xk pc G h lv k sk n (-32768) 32767 3
  | .ldc ix => zx_xint pc G h lv k sk (zx_mI M ix) 2
  | .ldc_w ix => zx_xint pc G h lv k sk (zx_mI M ix) 3
  | .ldc2_w ix => zx_xldc2 M pc G h lv k sk ix
  | .lconst _ => zx_xlc pc G h lv k sk
  | .iload n => zx_xld pc G h lv k sk n 2
  | .iload_n n => zx_xld pc G h lv k sk n 1
  | .lload n => zx_xlld pc G h lv k sk n 2
  | .lload_n n => zx_xlld pc G h lv k sk n 1
  | .aload n => zx_xald pc G h lv k sk n 2
  | .aload_n n => zx_xald pc G h lv k sk n 1
  | .istore n => zx_xst M pc G h lv k sk n 2
  | .istore_n n => zx_xst M pc G h lv k sk n 1
  | .lstore n => zx_xlst M pc G h lv k sk n 2
  | .lstore_n n => zx_xlst M pc G h lv k sk n 1
  | .astore n => zx_xast M pc G h lv k sk n 2
  | .astore_n n => zx_xast M pc G h lv k sk n 1
  | .iinc n c => zx_xinc M pc G h lv k sk n c
  | .iadd => zx_xbin pc h lv k sk (fun x y => zx_val G (zx_add x y))
  | .isub => zx_xbin pc h lv k sk (fun x y => zx_val G (zx_sub x y))
  | .imul => zx_xbin pc h lv k sk (fun x y => zx_mul G x y)
  | .idiv => zx_xbin pc h lv k sk (fun x y => zx_div G x y)
  | .irem => zx_xbin pc h lv k sk (fun x y => zx_rem G x y)
  | .iand => zx_xbin pc h lv k sk (fun x y => zx_and G x y)
  | .ior => zx_xbin pc h lv k sk (fun _ _ => some (zx_full G))
  | .ixor => zx_xbin pc h lv k sk (fun _ _ => some (zx_full G))
  | .ishl => zx_xbin pc h lv k sk (fun _ _ => some (zx_full G))
  | .ishr => zx_xbin pc h lv k sk (fun _ _ => some (zx_full G))
  | .i2b => zx_xi2b pc G h lv k sk
  | .i2l => zx_xi2l pc G h lv k sk
  | .l2i => zx_xl2i pc G h lv k sk
  | .land => zx_xlbin pc G h lv k sk
  | .lor => zx_xlbin pc G h lv k sk
  | .lxor => zx_xlbin pc G h lv k sk
  | .lshl => zx_xlsh pc G h lv k sk
  | .lshr => zx_xlsh pc G h lv k sk
  | .lcmp => zx_xlcmp pc G h lv k sk
  | .dup => zx_xdup pc G h lv k sk
  | .pop => zx_xpop pc G h lv k sk
  | .dup2 => zx_xdup2 pc G h lv k sk
  | .goto off => zx_xgoto pc G h lv k sk off
  | .ifCond c off => zx_xif pc G h lv k sk c off
  | .if_icmp c off => zx_xicmp pc G h lv k sk c off
  | .tableswitch d lo hi offs => zx_xtab pc G h lv k sk d lo hi offs
  | .getfield ix => zx_xget M pc G h lv k sk ix
  | .putfield ix => zx_xput M pc G h lv k sk ix
  | .getstatic ix => zx_xgs M pc G h lv k sk ix
  | .iaload => zx_xiald M Y pc G h lv k sk
  | .baload => zx_xal pc G h lv k sk (fun t => t == 1 || t == 2)
  | .aaload => zx_xal pc G h lv k sk (fun t => Nat.ble 3 t)
  | .iastore => zx_xas pc G h lv k sk false
  | .bastore => zx_xas pc G h lv k sk true
  | .aastore => zx_xqs pc G h lv k sk
  | .arraylength => zx_xalen M Y pc G h lv k sk
  | .new ix => zx_xnew M pc G h lv k sk ix dt
  | .newarray a => zx_xna M pc G h lv k sk a
  | .anewarray ix => zx_xnq M pc G h lv k sk ix
  | _ => none
end ZXD
theorem zx_b8 {n : Int} (h1 : -128 ≤ n) (h2 : n ≤ 127) : (Int8.ofInt n).toInt32.toInt = n := by
  rw [Int8.toInt_toInt32]
  exact Int8.toInt_ofInt_of_le (by omega) (by omega)
theorem zx_b16 {n : Int} (h1 : -32768 ≤ n) (h2 : n ≤ 32767) : (Int16.ofInt n).toInt32.toInt = n := by
  rw [Int16.toInt_toInt32]
  exact Int16.toInt_ofInt_of_le (by omega) (by omega)
section ZXE
variable {p : Program} {l : Launch} {e : Env} {R : Room} {s : State} {m : MethodId} {args : Array Value} {below : List Frame} {meth : Method} {c : Code} {Q : State → Prop}
variable {D : va_G} {cl : List vw_C} {A : Nat → Prop} {b : Nat} {ex ad0 : List Nat} {nL : Nat} {ρ : List Int} {G : zx_G} {h : List zx_C} {lv : List (Nat × zx_V)} {k : Nat × Nat} {sk : List zx_V} {H : Heap} {locs : List Loc} {ls : Array Slot} {kc : List Value} {tys : List (ClassId × FieldType)} {ws : va_W} {lc : List (Nat × Value)}
variable {cc : ByteArray} {pc : Nat} {M : zx_M} {z : List (Nat × zx_T)} {own : String} {Ts nw : List Jvm.Cond} {sts : List (String × String × String × Nat)} {Y : zx_Y} {aos : List String} {dt : List (List Nat)} {xs : Nat → Int32}
theorem zx_xint_ok {n : Option Int} {d : Nat} (hG : zx_ok ρ G) (B : zx_B D cl A b ex ad0 nL s ρ h lv sk H locs ls kc tys ws lc) (hz : zx_xint pc G h lv k sk n d = some z) (K : zx_KK p l e R s m args below meth c Q D cl A b ex ad0 nL ρ z) : ∃ v, n = some v ∧ ∀ w : Int32, w.toInt = v → W p l e R s m args below meth c H locs k.1 k.2 Q (F0 m (pc + d) ls (.int w :: kc)) := by
  unfold zx_xint at hz
  split at hz
  · rename_i v
    exact ⟨v, rfl, fun w hw => zx_push_W hG B hz ⟨w, rfl, by rw [hw]; exact zx_ev_iff.mpr ⟨0, rfl, by simp⟩⟩ K⟩
  · cases hz
theorem zx_dec_lt {x : Int32} : x < 0 ↔ x.toInt < 0 := Int32.lt_iff_toInt_lt
theorem zx_dec_eq {x y : Int32} : x = y ↔ x.toInt - y.toInt = 0 := by
  rw [← Int32.toInt_inj]; omega
theorem zx_dec_lt2 {x y : Int32} : x < y ↔ x.toInt - y.toInt < 0 := by
  rw [Int32.lt_iff_toInt_lt]; omega
theorem zx_dec_le2 {x y : Int32} : x ≤ y ↔ x.toInt - y.toInt ≤ 0 := by
  rw [Int32.le_iff_toInt_le]; omega
end ZXE
end
section
/-! zx: an instruction does on the machine what zx_step says -/
section ZXS
variable {p : Program} {l : Launch} {e : Env} {R : Room} {s : State} {m : MethodId} {args : Array Value} {below : List Frame} {meth : Method} {c : Code} {Q : State → Prop}
variable {D : va_G} {cl : List vw_C} {A : Nat → Prop} {b : Nat} {ex ad0 : List Nat} {nL : Nat} {ρ : List Int} {G : zx_G} {h : List zx_C} {lv : List (Nat × zx_V)} {k : Nat × Nat} {sk : List zx_V} {H : Heap} {locs : List Loc} {ls : Array Slot} {kc : List Value} {tys : List (ClassId × FieldType)} {ws : va_W} {lc : List (Nat × Value)}
variable {cc : ByteArray} {pc : Nat} {M : zx_M} {z : List (Nat × zx_T)} {own : String} {Ts nw : List Jvm.Cond} {sts : List (String × String × String × Nat)} {Y : zx_Y} {aos : List String} {dt : List (List Nat)} {xs : Nat → Int32}
theorem zx_iald_ok (F : zx_FX p s m args meth c R cc own Ts nw cl A ex nL sts Y aos dt M) (hS : zx_SX b xs A s M ρ) (hd : decode cc pc = .ok (.iaload, 1)) (hG : zx_ok ρ G) (B : zx_B D cl A b ex ad0 nL s ρ h lv sk H locs ls kc tys ws lc) (hz : zx_xiald M Y pc G h lv k sk = some z) (K : zx_KK p l e R s m args below meth c Q D cl A b ex ad0 nL ρ z) : W p l e R s m args below meth c H locs k.1 k.2 Q (F0 m pc ls kc) := by
  unfold zx_xiald at hz
  split at hz
  · exact zx_xsl_ok F hS hd hG B hz K
  · split at hz
    · exact zx_xyl_ok F hd hG B hz K
    · obtain ⟨w, a, kr, i0, t0, cA, tg, n, h1, h2, h3, h4, h5⟩ := zx_xal_ok hG B hz K
      subst h1
      have h2 : tg = 0 := by simpa using h2
      subst h2
      rcases h5 with ⟨-, f, h6, h7⟩ | ⟨h5, -⟩
      · exact va_iald F.1 F.2.1 B.1 B.2.1 i0 t0 h6 h3 h4 hd h7
      · omega
  · cases hz
theorem zx_bald_ok (F : zx_FX p s m args meth c R cc own Ts nw cl A ex nL sts Y aos dt M) (hd : decode cc pc = .ok (.baload, 1)) (hG : zx_ok ρ G) (B : zx_B D cl A b ex ad0 nL s ρ h lv sk H locs ls kc tys ws lc) (hz : zx_xal pc G h lv k sk (fun t => t == 1 || t == 2) = some z) (K : zx_KK p l e R s m args below meth c Q D cl A b ex ad0 nL ρ z) : W p l e R s m args below meth c H locs k.1 k.2 Q (F0 m pc ls kc) := by
  obtain ⟨w, a, kr, i0, t0, cA, tg, n, h1, h2, h3, h4, h5⟩ := zx_xal_ok hG B hz K
  subst h1
  simp only [Bool.or_eq_true, beq_iff_eq] at h2
  rcases h5 with ⟨-, f, h6, h7⟩ | ⟨h5, -⟩
  · rcases h2 with h2 | h2
    · subst h2
      exact va_bald F.1 F.2.1 B.1 B.2.1 i0 t0 h6 h3 h4 hd h7
    · subst h2
      exact va_zald F.1 F.2.1 B.1 B.2.1 i0 t0 h6 h3 h4 hd h7
  · omega
theorem zx_aald_ok (F : zx_FX p s m args meth c R cc own Ts nw cl A ex nL sts Y aos dt M) (hd : decode cc pc = .ok (.aaload, 1)) (hG : zx_ok ρ G) (B : zx_B D cl A b ex ad0 nL s ρ h lv sk H locs ls kc tys ws lc) (hz : zx_xal pc G h lv k sk (fun t => Nat.ble 3 t) = some z) (K : zx_KK p l e R s m args below meth c Q D cl A b ex ad0 nL ρ z) : W p l e R s m args below meth c H locs k.1 k.2 Q (F0 m pc ls kc) := by
  obtain ⟨w, a, kr, i0, t0, cA, tg, n, h1, h2, h3, h4, h5⟩ := zx_xal_ok hG B hz K
  subst h1
  have h2 : 3 ≤ tg := Nat.le_of_ble_eq_true h2
  rcases h5 with ⟨h5, -⟩ | ⟨-, f, h6, h7⟩
  · omega
  · obtain ⟨j, rfl⟩ : ∃ j, tg = j + 3 := ⟨tg - 3, by omega⟩
    exact va_aldq F.1 F.2.1 B.1 B.2.1 i0 t0 h6 h3 h4 hd h7
theorem zx_iast_ok (F : zx_FX p s m args meth c R cc own Ts nw cl A ex nL sts Y aos dt M) (hd : decode cc pc = .ok (.iastore, 1)) (hG : zx_ok ρ G) (B : zx_B D cl A b ex ad0 nL s ρ h lv sk H locs ls kc tys ws lc) (hz : zx_xas pc G h lv k sk false = some z) (K : zx_KK p l e R s m args below meth c Q D cl A b ex ad0 nL ρ z) : W p l e R s m args below meth c H locs k.1 k.2 Q (F0 m pc ls kc) := by
  obtain ⟨v, w, a, kr, i0, t0, cA, tg, n, f, h1, h2, h3, h4, h5, h6⟩ := zx_xas_ok hG B hz K
  subst h1
  rw [if_neg (by decide)] at h2
  subst h2
  exact va_iast F.1 F.2.1 B.1 B.2.1 B.2.2.1 B.2.2.2.1.1 i0 t0 h5 h3 h4 hd h6
theorem zx_bast_ok (F : zx_FX p s m args meth c R cc own Ts nw cl A ex nL sts Y aos dt M) (hd : decode cc pc = .ok (.bastore, 1)) (hG : zx_ok ρ G) (B : zx_B D cl A b ex ad0 nL s ρ h lv sk H locs ls kc tys ws lc) (hz : zx_xas pc G h lv k sk true = some z) (K : zx_KK p l e R s m args below meth c Q D cl A b ex ad0 nL ρ z) : W p l e R s m args below meth c H locs k.1 k.2 Q (F0 m pc ls kc) := by
  obtain ⟨v, w, a, kr, i0, t0, cA, tg, n, f, h1, h2, h3, h4, h5, h6⟩ := zx_xas_ok hG B hz K
  subst h1
  rw [if_pos rfl] at h2
  rcases h2 with ⟨h2, h7⟩ | ⟨h2, h7⟩
  · subst h2
    exact va_bast F.1 F.2.1 B.1 B.2.1 B.2.2.1 B.2.2.2.1.1 i0 t0 h5 h3 h4 hd (by rw [h7]; exact h6)
  · subst h2
    exact va_zast F.1 F.2.1 B.1 B.2.1 B.2.2.1 B.2.2.2.1.1 i0 t0 h5 h3 h4 hd (by rw [h7]; exact h6)
theorem zx_lbin_ok (hG : zx_ok ρ G) (B : zx_B D cl A b ex ad0 nL s ρ h lv sk H locs ls kc tys ws lc) (hz : zx_xlbin pc G h lv k sk = some z) (K : zx_KK p l e R s m args below meth c Q D cl A b ex ad0 nL ρ z) : ∃ (x y : Int64) (kr : List Value), kc = .long y :: .long x :: kr ∧ ∀ v : Int64, W p l e R s m args below meth c H locs k.1 k.2 Q (F0 m (pc + 1) ls (.long v :: kr)) := by
  unfold zx_xlbin at hz
  split at hz
  · rename_i r
    obtain ⟨y, kr0, rfl, B0⟩ := zx_topl B
    obtain ⟨x, kr, rfl, B1⟩ := zx_topl B0
    exact ⟨x, y, kr, rfl, fun v => zx_push_W (v := zx_lg) hG B1 hz ⟨v, rfl⟩ K⟩
  · cases hz
theorem zx_lsh_ok (hG : zx_ok ρ G) (B : zx_B D cl A b ex ad0 nL s ρ h lv sk H locs ls kc tys ws lc) (hz : zx_xlsh pc G h lv k sk = some z) (K : zx_KK p l e R s m args below meth c Q D cl A b ex ad0 nL ρ z) : ∃ (x : Int64) (y : Int32) (kr : List Value), kc = .int y :: .long x :: kr ∧ ∀ v : Int64, W p l e R s m args below meth c H locs k.1 k.2 Q (F0 m (pc + 1) ls (.long v :: kr)) := by
  unfold zx_xlsh at hz
  split at hz
  · rename_i e1 r
    obtain ⟨y, kr0, rfl, -, B0⟩ := zx_topi B
    obtain ⟨x, kr, rfl, B1⟩ := zx_topl B0
    exact ⟨x, y, kr, rfl, fun v => zx_push_W (v := zx_lg) hG B1 hz ⟨v, rfl⟩ K⟩
  · cases hz
theorem zx_step_ok {i : Instr} {len : Nat} (F : zx_FX p s m args meth c R cc own Ts nw cl A ex nL sts Y aos dt M) (hS : zx_SX b xs A s M ρ) (harr : ∀ ty ∈ [FieldType.int, FieldType.byte, FieldType.boolean, FieldType.long], Jvm.Cond.arrayClass ty ∈ Ts) (hd : decode cc pc = .ok (i, len)) (hlen : zx_istab i = true ∨ len = zx_len i) (hG : zx_ok ρ G) (B : zx_B D cl A b ex ad0 nL s ρ h lv sk H locs ls kc tys ws lc) (hz : zx_step M Y dt pc i G h lv k sk = some z) (K : zx_KK p l e R s m args below meth c Q D cl A b ex ad0 nL ρ z) : W p l e R s m args below meth c H locs k.1 k.2 Q (F0 m pc ls kc) := by
  obtain ⟨hx, hb, hown, hts, hnw, hA, hR, hin, hnL, hCX, hao, hCK, hMK⟩ := id F
  by_cases hT : zx_istab i = true
  · cases i
    case tableswitch d lo hi offs =>
      obtain ⟨x, kr, t, h1, h2, h3⟩ := zx_xtab_ok hG B hz K
      subst h1
      rcases h3 with ⟨h3, h4⟩ | ⟨h3, h4, off, h5, h6⟩
      · exact lv_tableOut hx hb hd h3 h4 h2
      · exact lv_tableIn hx hb hd h3 h4 h5 h6 h2
    all_goals exact absurd hT (fun q => nomatch (show false = true from q))
  · have hl : len = zx_len i := hlen.resolve_left hT
    subst hl
    cases i
    case iconst n => exact lv_iconst (v := Int32.ofInt n) hx hb hd rfl (zx_xk_ok hG B hz K (fun h1 h2 => zx_ofI (by omega) (by omega)))
    case bipush n => exact lv_bipush hx hb hd rfl (zx_xk_ok hG B hz K (fun h1 h2 => zx_b8 h1 h2))
    case sipush n => exact lv_sipush hx hb hd rfl (zx_xk_ok hG B hz K (fun h1 h2 => zx_b16 h1 h2))
    case ldc ix =>
      obtain ⟨v, h1, h2⟩ := zx_xint_ok hG B hz K
      obtain ⟨w, h3, h4⟩ := hMK.2.2.2.1 ix v h1
      exact lv_ldc hx hb hown (hts _ h4) hd (h2 w h3)
    case ldc_w ix =>
      obtain ⟨v, h1, h2⟩ := zx_xint_ok hG B hz K
      obtain ⟨w, h3, h4⟩ := hMK.2.2.2.1 ix v h1
      exact lv_ldcw hx hb hown (hts _ h4) hd (h2 w h3)
    case ldc2_w ix =>
      have hz : zx_xldc2 M pc G h lv k sk ix = some z := hz
      unfold zx_xldc2 at hz
      split at hz
      · rename_i h1
        obtain ⟨w, h2⟩ := hMK.2.2.2.2 ix h1
        exact lv_ldc2 hx hb hown (hts _ h2) hd (zx_push_W (v := zx_lg) hG B hz ⟨w, rfl⟩ K)
      · cases hz
    case lconst n => exact lv_lconst hx hb hd rfl (zx_push_W (v := zx_lg) hG B hz ⟨_, rfl⟩ K)
    case iload n =>
      obtain ⟨w, h1, h2⟩ := zx_xld_ok hG B hz K
      exact lv_iload hx hb hd h1 h2
    case iload_n n =>
      obtain ⟨w, h1, h2⟩ := zx_xld_ok hG B hz K
      exact lv_iload_n hx hb hd rfl h1 h2
    case lload n =>
      obtain ⟨w, h1, h2⟩ := zx_xlld_ok hG B hz K
      exact lv_lload hx hb hd h1 h2
    case lload_n n =>
      obtain ⟨w, h1, h2⟩ := zx_xlld_ok hG B hz K
      exact lv_lload_n hx hb hd rfl h1 h2
    case aload n =>
      obtain ⟨w, h1, h2⟩ := zx_xald_ok hG B hz K
      exact lv_aload hx hb hd h1 h2
    case aload_n n =>
      obtain ⟨w, h1, h2⟩ := zx_xald_ok hG B hz K
      exact lv_aload_n hx hb hd rfl h1 h2
    case istore n =>
      obtain ⟨w, kr, h1, h2, h3⟩ := zx_xst_ok hG hnL B hz K
      subst h1
      exact lv_istore hx hb hd B.2.2.2.2.2.2.1 h2 rfl h3
    case istore_n n =>
      obtain ⟨w, kr, h1, h2, h3⟩ := zx_xst_ok hG hnL B hz K
      subst h1
      exact lv_istore_n hx hb hd rfl B.2.2.2.2.2.2.1 h2 rfl h3
    case lstore n =>
      obtain ⟨w, kr, h1, h2, h3⟩ := zx_xlst_ok hG hnL B hz K
      subst h1
      exact lv_lstore hx hb hd B.2.2.2.2.2.2.1 h2 rfl h3
    case lstore_n n =>
      obtain ⟨w, kr, h1, h2, h3⟩ := zx_xlst_ok hG hnL B hz K
      subst h1
      exact lv_lstore_n hx hb hd rfl B.2.2.2.2.2.2.1 h2 rfl h3
    case astore n =>
      obtain ⟨w, kr, h1, h2, h3⟩ := zx_xast_ok hG hnL B hz K
      subst h1
      exact lv_astore hx hb hd B.2.2.2.2.2.2.1 h2 rfl h3
    case astore_n n =>
      obtain ⟨w, kr, h1, h2, h3⟩ := zx_xast_ok hG hnL B hz K
      subst h1
      exact lv_astore_n hx hb hd rfl B.2.2.2.2.2.2.1 h2 rfl h3
    case iinc n c0 =>
      obtain ⟨w, j, h1, h2, h3⟩ := zx_xinc_ok hG hnL B hz K
      exact lv_iinc hx hb hd B.2.2.2.2.2.2.1 h1 rfl h2 rfl h3
    case iadd =>
      obtain ⟨x, y, kr, e1, e2, q, h1, h2, h3, hq, h4⟩ := zx_xbin_ok B hz K
      subst h1
      exact lv_iadd hx hb hd (h4 _ (zx_val_ok hG hq (zx_add_ev h2 h3) (fun g1 g2 => zx_addI x y g1 g2)))
    case isub =>
      obtain ⟨x, y, kr, e1, e2, q, h1, h2, h3, hq, h4⟩ := zx_xbin_ok B hz K
      subst h1
      exact lv_isub hx hb hd (h4 _ (zx_val_ok hG hq (zx_sub_ev h2 h3) (fun g1 g2 => zx_subI x y g1 g2)))
    case imul =>
      obtain ⟨x, y, kr, e1, e2, q, h1, h2, h3, hq, h4⟩ := zx_xbin_ok B hz K
      subst h1
      exact lv_imul hx hb hd (h4 _ (zx_mul_ok hG h2 h3 hq))
    case idiv =>
      obtain ⟨x, y, kr, e1, e2, q, h1, h2, h3, hq, h4⟩ := zx_xbin_ok B hz K
      subst h1
      exact lv_idiv hx hb hd (zx_div_ok (b := b) (ex := ex) (ad := zx_as ws) hG h2 h3 hq).1 (h4 _ (zx_div_ok hG h2 h3 hq).2)
    case irem =>
      obtain ⟨x, y, kr, e1, e2, q, h1, h2, h3, hq, h4⟩ := zx_xbin_ok B hz K
      subst h1
      exact lv_irem hx hb hd (zx_rem_ok (b := b) (ex := ex) (ad := zx_as ws) hG h2 h3 hq).1 (h4 _ (zx_rem_ok hG h2 h3 hq).2)
    case iand =>
      obtain ⟨x, y, kr, e1, e2, q, h1, h2, h3, hq, h4⟩ := zx_xbin_ok B hz K
      subst h1
      exact lv_iand hx hb hd (h4 _ (zx_and_ok hG h3 hq))
    case ior =>
      obtain ⟨x, y, kr, e1, e2, q, h1, h2, h3, hq, h4⟩ := zx_xbin_ok B hz K
      subst h1
      exact lv_ior hx hb hd (h4 _ (by cases hq; exact zx_full_ok hG))
    case ixor =>
      obtain ⟨x, y, kr, e1, e2, q, h1, h2, h3, hq, h4⟩ := zx_xbin_ok B hz K
      subst h1
      exact lv_ixor hx hb hd (h4 _ (by cases hq; exact zx_full_ok hG))
    case ishl =>
      obtain ⟨x, y, kr, e1, e2, q, h1, h2, h3, hq, h4⟩ := zx_xbin_ok B hz K
      subst h1
      exact lv_ishl hx hb hd (h4 _ (by cases hq; exact zx_full_ok hG))
    case ishr =>
      obtain ⟨x, y, kr, e1, e2, q, h1, h2, h3, hq, h4⟩ := zx_xbin_ok B hz K
      subst h1
      exact lv_ishr hx hb hd (h4 _ (by cases hq; exact zx_full_ok hG))
    case i2b =>
      have hz : zx_xi2b pc G h lv k sk = some z := hz
      unfold zx_xi2b at hz
      split at hz
      · rename_i x1 r
        obtain ⟨x, kr, rfl, h2, B1⟩ := zx_topi B
        split at hz
        · rename_i t ht
          obtain ⟨q1, q2⟩ := zx_rng_ok hG ht h2
          have hnar : ∀ w : Int32, -128 ≤ w.toInt8.toInt32.toInt ∧ w.toInt8.toInt32.toInt ≤ 127 := by
            intro w
            rw [Int8.toInt_toInt32]
            exact ⟨Int8.le_toInt _, by have := Int8.toInt_lt w.toInt8; omega⟩
          by_cases hi : zx_in t (-128) 127 = true
          · rw [if_pos hi] at hz
            refine lv_i2b hx hb hd rfl (zx_go_W B1 hz (fun q hq => ?_) K)
            cases hq
            obtain ⟨q3, q4⟩ := zx_in_iff.mp hi
            have h9 : x.toInt8.toInt32 = x := zx_nar8 (w := x) (by omega) (by omega)
            rw [h9]
            exact zx_same_ok hG h2
          · rw [if_neg hi] at hz
            refine lv_i2b hx hb hd rfl (zx_go_W B1 hz (fun q hq => ?_) K)
            cases hq
            exact zx_fr_ok hG (hnar x).1 (hnar x).2
        · cases hz
      · cases hz
    case i2l =>
      have hz : zx_xi2l pc G h lv k sk = some z := hz
      unfold zx_xi2l at hz
      split at hz
      · rename_i x1 r
        obtain ⟨x, kr, rfl, h2, B1⟩ := zx_topi B
        exact lv_i2l hx hb hd rfl (zx_push_W (v := zx_lg) hG B1 hz ⟨_, rfl⟩ K)
      · cases hz
    case l2i =>
      have hz : zx_xl2i pc G h lv k sk = some z := hz
      unfold zx_xl2i at hz
      split at hz
      · rename_i r
        obtain ⟨x, kr, rfl, B1⟩ := zx_topl B
        exact lv_l2i hx hb hd rfl (zx_go_W B1 hz (fun q hq => by cases hq; exact zx_full_ok hG) K)
      · cases hz
    case land =>
      obtain ⟨x, y, kr, h1, h2⟩ := zx_lbin_ok hG B hz K
      subst h1
      exact lv_land hx hb hd (h2 _)
    case lor =>
      obtain ⟨x, y, kr, h1, h2⟩ := zx_lbin_ok hG B hz K
      subst h1
      exact lv_lor hx hb hd (h2 _)
    case lxor =>
      obtain ⟨x, y, kr, h1, h2⟩ := zx_lbin_ok hG B hz K
      subst h1
      exact lv_lxor hx hb hd (h2 _)
    case lshl =>
      obtain ⟨x, y, kr, h1, h2⟩ := zx_lsh_ok hG B hz K
      subst h1
      exact lv_lshl hx hb hd rfl (h2 _)
    case lshr =>
      obtain ⟨x, y, kr, h1, h2⟩ := zx_lsh_ok hG B hz K
      subst h1
      exact lv_lshr hx hb hd rfl (h2 _)
    case lcmp =>
      have hz : zx_xlcmp pc G h lv k sk = some z := hz
      unfold zx_xlcmp at hz
      split at hz
      · rename_i r
        obtain ⟨y, kr0, rfl, B0⟩ := zx_topl B
        obtain ⟨x, kr, rfl, B1⟩ := zx_topl B0
        exact W.lcmp hx hb hd (zx_go_W B1 hz (fun q hq => by cases hq; exact zx_full_ok hG) K)
      · cases hz
    case dup =>
      have hz : zx_xdup pc G h lv k sk = some z := hz
      unfold zx_xdup at hz
      split at hz
      · rename_i v r
        obtain ⟨x, kr, rfl, hv, B1⟩ := zx_top1 B
        split at hz
        · rename_i hc
          exact lv_dup hx hb hd (by rw [zx_R_cat hv]; exact hc) (zx_push_W hG B hz hv K)
        · cases hz
      · cases hz
    case pop =>
      have hz : zx_xpop pc G h lv k sk = some z := hz
      unfold zx_xpop at hz
      split at hz
      · rename_i v r
        obtain ⟨x, kr, rfl, hv, B1⟩ := zx_top1 B
        split at hz
        · rename_i hc
          exact lv_pop hx hb hd (by rw [zx_R_cat hv]; exact hc) (zx_K1 K (zx_one hz) (zx_J_same hG B1))
        · cases hz
      · cases hz
    case dup2 =>
      have hz : zx_xdup2 pc G h lv k sk = some z := hz
      unfold zx_xdup2 at hz
      split at hz
      · rename_i v w r
        obtain ⟨x, kr0, rfl, hv, B1⟩ := zx_top1 B
        obtain ⟨y, kr, rfl, hw, B2⟩ := zx_top1 B1
        split at hz
        · rename_i hc
          exact lv_dup2_11 hx hb hd (by rw [zx_R_cat hv]; exact hc.1) (by rw [zx_R_cat hw]; exact hc.2) (zx_K1 K (zx_one hz) (zx_J_same hG (zx_B_sk B ⟨hv, hw, hv, hw, B2.2.2.2.2.2.2.2⟩)))
        · cases hz
      · cases hz
    case goto off =>
      have hz : zx_xgoto pc G h lv k sk off = some z := hz
      unfold zx_xgoto at hz
      split at hz
      · rename_i t ht
        exact lv_goto hx hb hd (zx_tg_ok ht) (zx_K1 K (zx_one hz) (zx_J_same hG B))
      · cases hz
    case ifCond cn off =>
      obtain ⟨x, kr, t, h1, h2, h3, h4⟩ := zx_xif_ok hG B hz K
      subst h1
      have e0 : (0 : Int32).toInt = 0 := rfl
      cases cn
      · exact lv_if_eq hx hb hd h2 (fun q => h3 (by show x.toInt = 0; rw [q]; rfl)) (fun q => h4 (fun g => q (Int32.toInt_inj.mp g)))
      · exact lv_if_ne hx hb hd h2 (fun q => h3 (fun g => q (Int32.toInt_inj.mp g))) (fun q => h4 (fun g => g (by rw [q]; rfl)))
      · exact lv_if_lt hx hb hd h2 (fun q => h3 (zx_dec_lt.mp q)) (fun q => h4 (fun g => q (zx_dec_lt.mpr g)))
      · exact lv_if_ge hx hb hd h2 (fun q => h3 (by have := Int32.le_iff_toInt_le.mp q; rwa [e0] at this)) (fun q => h4 (fun g => q (Int32.le_iff_toInt_le.mpr (by rw [e0]; exact g))))
      · exact lv_if_gt hx hb hd h2 (fun q => h3 (by have := Int32.lt_iff_toInt_lt.mp q; rwa [e0] at this)) (fun q => h4 (fun g => q (Int32.lt_iff_toInt_lt.mpr (by rw [e0]; exact g))))
      · exact lv_if_le hx hb hd h2 (fun q => h3 (by have := Int32.le_iff_toInt_le.mp q; rwa [e0] at this)) (fun q => h4 (fun g => q (Int32.le_iff_toInt_le.mpr (by rw [e0]; exact g))))
    case if_icmp cn off =>
      obtain ⟨x, y, kr, t, h1, h2, h3, h4⟩ := zx_xicmp_ok hG B hz K
      subst h1
      cases cn
      · exact lv_icmp_eq hx hb hd h2 (fun q => h3 (zx_dec_eq.mp q)) (fun q => h4 (fun g => q (zx_dec_eq.mpr g)))
      · exact lv_icmp_ne hx hb hd h2 (fun q => h3 (fun g => q (zx_dec_eq.mpr g))) (fun q => h4 (fun g => g (zx_dec_eq.mp q)))
      · exact lv_icmp_lt hx hb hd h2 (fun q => h3 (zx_dec_lt2.mp q)) (fun q => h4 (fun g => q (zx_dec_lt2.mpr g)))
      · exact lv_icmp_ge hx hb hd h2 (fun q => h3 (by have := Int32.le_iff_toInt_le.mp q; show 0 ≤ x.toInt - y.toInt; omega)) (fun q => h4 (fun g => q (Int32.le_iff_toInt_le.mpr (by have g : 0 ≤ x.toInt - y.toInt := g; omega))))
      · exact lv_icmp_gt hx hb hd h2 (fun q => h3 (by have := Int32.lt_iff_toInt_lt.mp q; show 0 < x.toInt - y.toInt; omega)) (fun q => h4 (fun g => q (Int32.lt_iff_toInt_lt.mpr (by have g : 0 < x.toInt - y.toInt := g; omega))))
      · exact lv_icmp_le hx hb hd h2 (fun q => h3 (zx_dec_le2.mp q)) (fun q => h4 (fun g => q (zx_dec_le2.mpr g)))
    case getfield ix => exact zx_xget_ok F hd hG B hz K
    case putfield ix => exact zx_xput_ok F hd hG B hz K
    case getstatic ix => exact zx_xgs_ok F hd hG B hz K
    case iaload => exact zx_iald_ok F hS hd hG B hz K
    case baload => exact zx_bald_ok F hd hG B hz K
    case aaload => exact zx_aald_ok F hd hG B hz K
    case iastore => exact zx_iast_ok F hd hG B hz K
    case bastore => exact zx_bast_ok F hd hG B hz K
    case aastore => exact zx_xqs_ok F hd hG B hz K
    case arraylength =>
      have hz : zx_xalen M Y pc G h lv k sk = some z := hz
      unfold zx_xalen at hz
      split at hz
      · exact zx_xsn_ok F hS hd hG B hz K
      · split at hz
        · exact zx_xyn_ok F hd hG B hz K
        · exact zx_xlen_ok F hd hG B hz K
      · cases hz
    case new ix => exact zx_xnew_ok F hd hG B hz K
    case newarray a =>
      refine zx_xna_ok F (fun ty hty => ?_) hd hG B hz K
      have hz : zx_xna M pc G h lv k sk a = some z := hz
      refine harr ty ?_
      subst hty
      cases a <;> first | decide | skip
      all_goals
        exfalso
        unfold zx_xna at hz
        split at hz
        · split at hz
          · cases hz
          · cases hz
        · cases hz
    case anewarray ix => exact zx_xnq_ok F hd hG B hz K
    case tableswitch d lo hi offs => exact absurd rfl hT
    all_goals exact nomatch (show (none : zx_O) = some z from hz)
end ZXS
end
section
/-! zx: whole methods -/
/-- an end: bounds, cells, the answer -/
abbrev zx_Ou : Type := zx_G × (List zx_C × Option zx_V)
/-- a method: its code; the tables; its calls (sort, which, how many with the receiver, the receiver's class); the sort of its answer (4: none) -/
abbrev zx_MD : Type := List (Nat × Instr × Nat) × (zx_M × ((Nat → Option (Nat × Nat × Nat × Nat)) × Nat))
abbrev zx_Fn : Type := Nat → zx_G → List zx_C → List zx_V → Option (List zx_Ou)
def zx_inv (i : Instr) : Option (Nat × Nat) := match i with
  | .invokevirtual ix => some (ix, 0)
  | .invokespecial ix => some (ix, 2)
  | .invokestatic ix => some (ix, 1)
  | _ => none
/-- the sort of a call (0 a method, 1 static, 2 a constructor, 3 and 4: 1 and 2 among nest mates, 5 Object's constructor), and its instruction -/
def zx_kok (kd i : Nat) : Bool := match kd with
  | 0 => i == 0
  | 1 => i == 1
  | 3 => i == 1
  | 2 => i == 2
  | 4 => i == 2
  | _ => false
def zx_isret (i : Instr) : Bool := match i with
  | .return_ => true
  | .ireturn => true
  | .areturn => true
  | .lreturn => true
  | _ => false
def zx_le2 (k r : Nat × Nat) : Bool := Nat.ble k.1 r.1 && Nat.ble k.2 r.2
def zx_rtV (rt : Nat) (G : zx_G) (h : List zx_C) (sk : List zx_V) : Option (List zx_Ou) := match sk with
  | [] => if rt = 4 then some [(G, h, none)] else none
  | _ => none
def zx_rtI (rt : Nat) (G : zx_G) (h : List zx_C) (sk : List zx_V) : Option (List zx_Ou) := match sk with
  | [.inl e] => if zx_fit G rt (.inl e) = true then some [(G, h, some (.inl e))] else none
  | _ => none
def zx_rtA (rt : Nat) (G : zx_G) (h : List zx_C) (sk : List zx_V) : Option (List zx_Ou) := match sk with
  | [.inr (.inl q)] => if rt = 3 then some [(G, h, some (.inr (.inl q)))] else none
  | _ => none
def zx_rtL (rt : Nat) (G : zx_G) (h : List zx_C) (sk : List zx_V) : Option (List zx_Ou) := match sk with
  | [.inr (.inr true)] => if rt = 2 then some [(G, h, some zx_lg)] else none
  | _ => none
def zx_retv (i : Instr) (rt : Nat) (G : zx_G) (h : List zx_C) (sk : List zx_V) : Option (List zx_Ou) := match i with
  | .return_ => zx_rtV rt G h sk
  | .ireturn => zx_rtI rt G h sk
  | .areturn => zx_rtA rt G h sk
  | .lreturn => zx_rtL rt G h sk
  | _ => none
def zx_cats : List zx_V → Nat
  | [] => 0
  | v :: r => zx_cat v + zx_cats r
/-- all of them are objects of a class -/
def zx_objs (h : List zx_C) (ci : Nat) : List Nat → Bool
  | [] => true
  | id :: r => if id < 64 then false else match h[id - 64]? with
    | some (.inl o) => if o.1 = ci then zx_objs h ci r else false
    | _ => false
def zx_rc0 (h : List zx_C) (ci : Nat) (as : List zx_V) : Bool := match as with
  | .inr (.inl (ids, false)) :: _ => zx_objs h ci ids
  | _ => false
def zx_rc1 (as : List zx_V) : Bool := match as with
  | .inr (.inl (_, false)) :: _ => true
  | _ => false
def zx_recvr (kd ci : Nat) (h : List zx_C) (as : List zx_V) : Bool := match kd with
  | 0 => zx_rc0 h ci as
  | 2 => zx_rc1 as
  | 4 => zx_rc1 as
  | _ => true
/-- behind a call: the ends of the callee, each with the stack and the count -/
def zx_back (rest : List zx_V) (k : Nat × Nat) : List zx_Ou → List (zx_G × (List zx_C × (List zx_V × (Nat × Nat))))
  | [] => []
  | o :: r => (o.1, o.2.1, o.2.2.toList ++ rest, k) :: zx_back rest k r
def zx_call (M : zx_M) (cf : Nat → Option (Nat × Nat × Nat × Nat)) (rmt : List (Nat × Nat)) (f : zx_Fn) (ix : Nat × Nat) (G : zx_G) (h : List zx_C) (k : Nat × Nat) (sk : List zx_V) : Option (List (zx_G × (List zx_C × (List zx_V × (Nat × Nat))))) := match cf ix.1 with
  | some q => if q.1 = 5 ∧ ix.2 = 2 then (match sk with
      | .inr (.inl (_, false)) :: r => if zx_cats r ≤ 8 then some [(G, h, r, k)] else none
      | _ => none) else (match rmt[q.2.1]? with
      | some rm => if zx_kok q.1 ix.2 = true ∧ (sk.take q.2.2.1).length = q.2.2.1 ∧ zx_cats (sk.drop q.2.2.1) ≤ 8 ∧ zx_le2 (k.1 + rm.1, k.2 + rm.2) (zx_mR M) = true ∧ zx_recvr q.1 q.2.2.2 h (sk.take q.2.2.1).reverse = true then (match f q.2.1 G h (sk.take q.2.2.1).reverse with
        | some os => some (zx_back (sk.drop q.2.2.1) (k.1 + rm.1, k.2 + rm.2) os)
        | none => none) else none
      | none => none)
  | none => none
def zx_drop (t : Nat) : List (Nat × Instr × Nat) → List (Nat × Instr × Nat)
  | [] => []
  | x :: r => if x.1 = t then x :: r else zx_drop t r
def zx_sk (tbl nx : List (Nat × Instr × Nat)) (t : Nat) : List (Nat × Instr × Nat) := match nx with
  | [] => zx_drop t tbl
  | x :: _ => if x.1 = t then nx else zx_drop t tbl
theorem zx_drop_ok {t : Nat} : ∀ {l : List (Nat × Instr × Nat)}, (∀ x ∈ zx_drop t l, x ∈ l) ∧ ∀ x r, zx_drop t l = x :: r → x.1 = t
  | [] => ⟨fun _ h => h, fun _ _ h => nomatch h⟩
  | y :: l => by
    rw [zx_drop]
    by_cases hy : y.1 = t
    · rw [if_pos hy]
      exact ⟨fun _ h => h, fun x r h => by cases h; exact hy⟩
    · rw [if_neg hy]
      exact ⟨fun x h => List.mem_cons_of_mem _ (zx_drop_ok.1 x h), zx_drop_ok.2⟩
theorem zx_sk_ok {tbl nx : List (Nat × Instr × Nat)} {t : Nat} (h : ∀ x ∈ nx, x ∈ tbl) : (∀ x ∈ zx_sk tbl nx t, x ∈ tbl) ∧ ∀ x r, zx_sk tbl nx t = x :: r → x.1 = t := by
  unfold zx_sk
  split
  · exact zx_drop_ok
  · rename_i y r
    split
    · rename_i hy
      exact ⟨h, fun x r h => by cases h; exact hy⟩
    · exact zx_drop_ok
/-- an end, or a place where the run is cut -/
abbrev zx_Os : Type := zx_Ou ⊕ (Nat × zx_T)
def zx_lefts : List zx_Ou → List zx_Os
  | [] => []
  | o :: r => .inl o :: zx_lefts r
def zx_inls : List zx_Os → Option (List zx_Ou)
  | [] => some []
  | .inl o :: r => match zx_inls r with
    | some q => some (o :: q)
    | none => none
  | .inr _ :: _ => none
theorem zx_lefts_mem {o : zx_Ou} : ∀ {l : List zx_Ou}, o ∈ l → .inl o ∈ zx_lefts l
  | [], h => nomatch h
  | a :: r, h => by
    rw [zx_lefts]
    rcases List.mem_cons.mp h with e | e
    · subst e; exact List.mem_cons_self
    · exact List.mem_cons_of_mem _ (zx_lefts_mem e)
theorem zx_inls_mem : ∀ {l : List zx_Os} {q : List zx_Ou}, zx_inls l = some q → ∀ x ∈ l, ∃ o ∈ q, x = .inl o
  | [], _, _, _, hx => nomatch hx
  | .inr _ :: _, _, h, _, _ => nomatch h
  | .inl a :: r, q, h, x, hx => by
    rw [zx_inls] at h
    split at h
    · rename_i q' hq
      cases h
      rcases List.mem_cons.mp hx with e | e
      · exact ⟨a, List.mem_cons_self, e⟩
      · obtain ⟨o, h1, h2⟩ := zx_inls_mem hq x e
        exact ⟨o, List.mem_cons_of_mem _ h1, h2⟩
    · cases h
abbrev zx_Ih : Type := List (Nat × Instr × Nat) → zx_G → List zx_C → List (Nat × zx_V) → Nat × Nat → List zx_V → Option (List zx_Os)
def zx_on (stp : Nat → Bool) (tbl nx : List (Nat × Instr × Nat)) (ih : zx_Ih) (q : Nat × zx_T) : Option (List zx_Os) :=
  if stp q.1 = true then some [.inr q] else ih (zx_sk tbl nx q.1) q.2.1 q.2.2.1 q.2.2.2.1 q.2.2.2.2.2 q.2.2.2.2.1
def zx_ex1 (Y : zx_Y) (dt : List (List Nat)) (rmt : List (Nat × Nat)) (stp : Nat → Bool) (md : zx_MD) (f : zx_Fn) (ih : zx_Ih) (x : Nat × Instr × Nat) (nx : List (Nat × Instr × Nat)) (G : zx_G) (h : List zx_C) (lv : List (Nat × zx_V)) (k : Nat × Nat) (sk : List zx_V) : Option (List zx_Os) := match zx_inv x.2.1 with
  | some ix => (match zx_call md.2.1 md.2.2.1 rmt f ix G h k sk with
    | some l => zx_all (fun q => zx_on stp md.1 nx ih (x.1 + 3, q.1, q.2.1, lv, q.2.2.1, q.2.2.2)) l
    | none => none)
  | none => if zx_isret x.2.1 = true then (if zx_le2 k (zx_mR md.2.1) = true then (match zx_retv x.2.1 md.2.2.2 G h sk with
      | some l => some (zx_lefts l)
      | none => none) else none) else (match zx_step md.2.1 Y dt x.1 x.2.1 G h lv k sk with
    | some z => zx_all (zx_on stp md.1 nx ih) z
    | none => none)
noncomputable def zx_ex (Y : zx_Y) (dt : List (List Nat)) (rmt : List (Nat × Nat)) (stp : Nat → Bool) (md : zx_MD) (f : zx_Fn) (n : Nat) : zx_Ih :=
  Nat.rec (motive := fun _ => zx_Ih) (fun _ _ _ _ _ _ => none)
    (fun _ ih cur G h lv k sk => match cur with
      | [] => none
      | x :: nx => zx_ex1 Y dt rmt stp md f ih x nx G h lv k sk) n
theorem zx_ex_s {Y : zx_Y} {dt : List (List Nat)} {rmt : List (Nat × Nat)} {stp : Nat → Bool} {md : zx_MD} {f : zx_Fn} {n : Nat} {x : Nat × Instr × Nat} {nx : List (Nat × Instr × Nat)} {G : zx_G} {h : List zx_C} {lv : List (Nat × zx_V)} {k : Nat × Nat} {sk : List zx_V} : zx_ex Y dt rmt stp md f (n + 1) (x :: nx) G h lv k sk = zx_ex1 Y dt rmt stp md f (zx_ex Y dt rmt stp md f n) x nx G h lv k sk := rfl
def zx_args : Nat → List zx_V → List (Nat × zx_V)
  | _, [] => []
  | i, v :: r => (i, v) :: zx_args (if zx_cat v = 2 then i + 2 else i + 1) r
theorem zx_args_ok {b : Nat} {ex : List Nat} {ρ : List Int} {ad : List Nat} : ∀ {as : List zx_V} {av : List Value} (i : Nat), zx_F2 (zx_R b ex ρ ad) as av → zx_F2 (fun x y => x.1 = y.1 ∧ zx_R b ex ρ ad x.2 y.2) (zx_args i as) (lv_args i av)
  | [], [], _, _ => trivial
  | v :: r, x :: m, i, h => by
    show zx_F2 _ ((i, v) :: zx_args (if zx_cat v = 2 then i + 2 else i + 1) r) ((i, x) :: lv_args (if x.category = 2 then i + 2 else i + 1) m)
    rw [zx_R_cat h.1]
    exact ⟨⟨rfl, h.1⟩, zx_args_ok _ h.2⟩
  | [], _ :: _, _, h => h.elim
  | _ :: _, [], _, h => h.elim
/-- a method to its end, calls no deeper than d -/
def zx_run1 (Y : zx_Y) (dt : List (List Nat)) (rmt : List (Nat × Nat)) (P : List (Option zx_MD)) (xf : zx_Fn) (ex : zx_MD → zx_Ih) (j : Nat) (G : zx_G) (h : List zx_C) (as : List zx_V) : Option (List zx_Ou) := match P[j]? with
  | some (some md) => if zx_cats as ≤ zx_mV md.2.1 then (match ex md md.1 G h (zx_args 0 as) (0, 0) [] with
      | some l => zx_inls l
      | none => none) else none
  | some none => xf j G h as
  | none => none
noncomputable def zx_run (Y : zx_Y) (dt : List (List Nat)) (rmt : List (Nat × Nat)) (P : List (Option zx_MD)) (xf : zx_Fn) (fuel d : Nat) : zx_Fn :=
  Nat.rec (motive := fun _ => zx_Fn) (fun _ _ _ _ => none) (fun _ ih => zx_run1 Y dt rmt P xf (fun md => zx_ex Y dt rmt (fun _ => false) md ih fuel)) d
theorem zx_run_s {Y : zx_Y} {dt : List (List Nat)} {rmt : List (Nat × Nat)} {P : List (Option zx_MD)} {xf : zx_Fn} {fuel d j : Nat} {G : zx_G} {h : List zx_C} {as : List zx_V} : zx_run Y dt rmt P xf fuel (d + 1) j G h as = zx_run1 Y dt rmt P xf (fun md => zx_ex Y dt rmt (fun _ => false) md (zx_run Y dt rmt P xf fuel d) fuel) j G h as := rfl
end
section
/-! zx: calls -/
def zx_rv (b : Nat) (ex : List Nat) (ρ : List Int) (ad : List Nat) (o : Option zx_V) (v : Option Value) : Prop := match o, v with
  | none, none => True
  | some a, some x => zx_R b ex ρ ad a x
  | _, _ => False
abbrev zx_PR : Type := List (MethodName × ByteArray × Nat × Option FieldType)
/-- what a state has beside the cells -/
def zx_EV (ex : List Nat) (A : Nat → Prop) (sts : List (String × String × String × Nat)) (Y : zx_Y) (nw : List Jvm.Cond) (aos : List String) (U : State) : Prop :=
  zx_CX ex A U U.heap sts Y ∧ (∀ w ∈ nw, va_Nw w U) ∧ (∀ C ∈ aos, va_AO C U)
def zx_Pc (D : va_G) (cl : List vw_C) (A : Nat → Prop) (ex : List Nat) (sts : List (String × String × String × Nat)) (Y : zx_Y) (nw : List Jvm.Cond) (aos : List String) (tys : List (ClassId × FieldType)) (ws : va_W) (sz : Nat) (av : List Value) : Array Value → State → Prop :=
  va_Pc av (fun U => U.heap.size = sz ∧ va_P D cl ws U.heap ∧ va_K D cl tys U ∧ va_D A ws ∧ zx_EV ex A sts Y nw aos U)
def zx_Qc (D : va_G) (cl : List vw_C) (A : Nat → Prop) (b : Nat) (ex : List Nat) (ρ : List Int) (ws : va_W) (os : List zx_Ou) : Array Value → State → Outcome → State → Prop := fun _ st oc t =>
  (∃ o ∈ os, ∃ (v : Option Value) (r2 : List Int) (tys' : List (ClassId × FieldType)) (ws' : va_W), oc = .returned v ∧ zx_ok (ρ ++ r2) o.1 ∧ va_K D cl tys' t ∧ va_P D cl ws' t.heap ∧ va_D A ws' ∧ (∃ xt, zx_as ws' = zx_as ws ++ xt) ∧ zx_F2 (fun c q => zx_RC cl b ex (ρ ++ r2) (zx_as ws') tys' c q.2) o.2.1 ws' ∧ zx_rv b ex (ρ ++ r2) (zx_as ws') o.2.2 v) ∧ va_F A st t
/-- the runs of f are the machine's -/
def zx_FJ (l : Launch) (cl : List vw_C) (Ts nw : List Jvm.Cond) (sts : List (String × String × String × Nat)) (Y : zx_Y) (aos : List String) (PR : zx_PR) (rmt : List (Nat × Nat)) (d : Nat) (f : zx_Fn) (j : Nat) : Prop :=
  ∀ (y : MethodName) (cc : ByteArray) (maxL : Nat) (ret : Option FieldType) (rm : Nat × Nat), PR[j]? = some (y, cc, maxL, ret) → rmt[j]? = some rm →
  ∀ (G : zx_G) (h : List zx_C) (as : List zx_V) (os : List zx_Ou), f j G h as = some os →
  ∀ (D : va_G) (A : Nat → Prop) (b : Nat) (ex : List Nat) (ρ : List Int) (tys : List (ClassId × FieldType)) (ws : va_W) (sz : Nat) (av : List Value), zx_ok ρ G → zx_F2 (fun c q => zx_RC cl b ex ρ (zx_as ws) tys c q.2) h ws → zx_F2 (zx_R b ex ρ (zx_as ws)) as av → (∀ q, sz ≤ q → A q) →
  Met l y (Jvm.Cond.code y cc maxL ret :: Ts) ({ frames := d, cells := rm.1, slots := rm.2, locals := 100 * d }) (zx_Pc D cl A ex sts Y nw aos tys ws sz av) (zx_Qc D cl A b ex ρ ws os) rm.1 rm.2 A
def zx_FOK (l : Launch) (cl : List vw_C) (Ts nw : List Jvm.Cond) (sts : List (String × String × String × Nat)) (Y : zx_Y) (aos : List String) (PR : zx_PR) (rmt : List (Nat × Nat)) (d : Nat) (f : zx_Fn) : Prop := ∀ j : Nat, zx_FJ l cl Ts nw sts Y aos PR rmt d f j
/-- the links of a class's calls -/
def zx_LK (own : String) (cl : List vw_C) (Ts nw : List Jvm.Cond) (PR : zx_PR) (cf : Nat → Option (Nat × Nat × Nat × Nat)) : Prop :=
  ∀ ix q, cf ix = some q → (q.1 = 5 → Jvm.Cond.methodLink own ix objectInit ∈ Ts ∧ Jvm.Cond.instanceMethod objectInit ∈ Ts ∧ Jvm.Cond.code objectInit ⟨#[0xb1]⟩ 1 none ∈ Ts) ∧
    (q.1 ≠ 5 → ∃ (y : MethodName) (cc : ByteArray) (maxL : Nat) (ret : Option FieldType), PR[q.2.1]? = some (y, cc, maxL, ret) ∧ maxL ≤ 80 ∧ Jvm.Cond.code y cc maxL ret ∈ Ts ∧ Jvm.Cond.initialized y.cls ∈ Ts ∧ y.cls ≠ "java/lang/invoke/MethodHandle" ∧ y.cls ≠ "java/lang/invoke/VarHandle" ∧
      (q.1 = 0 → Jvm.Cond.methodLink own ix y ∈ Ts ∧ Jvm.Cond.instanceMethod y ∈ Ts ∧ Jvm.Cond.selects y.cls y y ∈ Ts ∧ (parseMethodDescriptor y.desc).map (fun d => d.parameters.length) = some (q.2.2.1 - 1) ∧ ∃ (T : u_T) (N : Nat), cl[q.2.2.2]? = some (y.cls, T, N)) ∧
      (q.1 = 1 → Jvm.Cond.methodLink own ix y ∈ Ts ∧ Jvm.Cond.static y ∈ Ts ∧ (parseMethodDescriptor y.desc).map (fun d => d.parameters.length) = some q.2.2.1) ∧
      (q.1 = 2 → Jvm.Cond.methodLink own ix y ∈ Ts ∧ Jvm.Cond.instanceMethod y ∈ Ts ∧ y.name = "<init>" ∧ ret = none ∧ (parseMethodDescriptor y.desc).map (fun d => d.parameters.length) = some (q.2.2.1 - 1)) ∧
      (q.1 = 3 → ∃ host, Jvm.Cond.methodLinkNest own ix y host ∈ nw ∧ Jvm.Cond.static y ∈ Ts ∧ (parseMethodDescriptor y.desc).map (fun d => d.parameters.length) = some q.2.2.1) ∧
      (q.1 = 4 → ∃ host, Jvm.Cond.methodLinkNest own ix y host ∈ nw ∧ Jvm.Cond.instanceMethod y ∈ Ts ∧ y.name = "<init>" ∧ ret = none ∧ (parseMethodDescriptor y.desc).map (fun d => d.parameters.length) = some (q.2.2.1 - 1)))
def zx_nk (w : Jvm.Cond) : Bool := match w with
  | .fieldLinkNest _ _ _ _ _ _ => true
  | .methodLinkNest _ _ _ _ => true
  | _ => false
theorem zx_nw_warm {nw : List Jvm.Cond} {s U : State} (hk : nw.all zx_nk = true) (hW : s.WarmedH U.vm) (h : ∀ w ∈ nw, va_Nw w s) : ∀ w ∈ nw, va_Nw w U := by
  intro w hw
  have h1 := List.all_eq_true.mp hk w hw
  have h2 := h w hw
  cases w <;> first | exact va_Nw.warmF hW h2 | exact va_Nw.warmM hW h2 | cases h1
theorem zx_nw_same {nw : List Jvm.Cond} {s U : State} (hk : nw.all zx_nk = true) (hv : s.vm = U.vm) (h : ∀ w ∈ nw, va_Nw w s) : ∀ w ∈ nw, va_Nw w U := by
  intro w hw
  have h1 := List.all_eq_true.mp hk w hw
  have h2 := h w hw
  cases w <;> first | exact va_Nw.same rfl hv h2 | cases h1
theorem zx_CX_move {ex : List Nat} {A : Nat → Prop} {s U : State} {H : Heap} {sts : List (String × String × String × Nat)} {Y : zx_Y} (hvm : s.vm.Alike U.vm) (hk : ∀ a : Nat, a < s.heap.size → ¬ A a → H[a]? = s.heap[a]?) (h : zx_CX ex A s s.heap sts Y) : zx_CX ex A U H sts Y :=
  ⟨fun q hq => by obtain ⟨a, h1, h2⟩ := h.1 q hq; exact ⟨a, h1, (h2.kept hk).moved hvm⟩, fun q hq => by obtain ⟨a, h0, h1, h2, h3⟩ := h.2 q hq; exact ⟨a, h0, h1, h2, (h3.kept hk).moved hvm⟩⟩
theorem zx_blind {D : va_G} {cl : List vw_C} {A : Nat → Prop} {ex : List Nat} {sts : List (String × String × String × Nat)} {Y : zx_Y} {nw : List Jvm.Cond} {aos : List String} {tys : List (ClassId × FieldType)} {ws : va_W} {sz : Nat} {av : List Value} (hk : nw.all zx_nk = true) : FrameBlind (zx_Pc D cl A ex sts Y nw aos tys ws sz av) := by
  intro a U g mk h
  obtain ⟨h0, h1, h2, h3, h4, h5, h6, h7⟩ := h
  have hvm : U.vm.Alike (U.calling g mk a).vm := Vm.Alike.refl U.vm
  exact ⟨h0, h1, h2, va_K.moved hvm h3, h4, zx_CX_move (s := U) (U := U.calling g mk a) hvm (fun _ _ _ => rfl) h5, zx_nw_same hk (rfl : U.vm = (U.calling g mk a).vm) h6, fun C hC => va_AO.moved hvm (h7 C hC)⟩
theorem zx_cats_ok {b : Nat} {ex : List Nat} {ρ : List Int} {ad : List Nat} : ∀ {sk : List zx_V} {kc : List Value}, zx_F2 (zx_R b ex ρ ad) sk kc → (kc.map fun v => v.category).sum = zx_cats sk
  | [], [], _ => rfl
  | v :: r, x :: m, h => by
    show x.category + (m.map fun v => v.category).sum = zx_cat v + zx_cats r
    rw [zx_cats_ok h.2, zx_R_cat h.1]
  | [], _ :: _, h => h.elim
  | _ :: _, [], h => h.elim
theorem zx_objs_ok {h : List zx_C} {ci : Nat} : ∀ {ids : List Nat} {i : Nat}, zx_objs h ci ids = true → i ∈ ids → ¬ i < 64 ∧ ∃ ss, h[i - 64]? = some (.inl (ci, ss))
  | [], _, _, hi => nomatch hi
  | id :: r, i, ho, hi => by
    rw [zx_objs] at ho
    split at ho
    · cases ho
    · rename_i h1
      split at ho
      · rename_i o h2
        split at ho
        · rename_i h3
          rcases List.mem_cons.mp hi with e | e
          · subst e
            exact ⟨h1, o.2, by rw [h2, ← h3]⟩
          · exact zx_objs_ok ho e
        · cases ho
      · cases ho
theorem zx_back_mem {rest : List zx_V} {k : Nat × Nat} {o : zx_Ou} : ∀ {os : List zx_Ou}, o ∈ os → (o.1, o.2.1, o.2.2.toList ++ rest, k) ∈ zx_back rest k os
  | [], h => nomatch h
  | o1 :: r, h => by
    rw [zx_back]
    rcases List.mem_cons.mp h with e | e
    · subst e; exact List.mem_cons_self
    · exact List.mem_cons_of_mem _ (zx_back_mem e)
theorem zx_recvr0 {ci : Nat} {h : List zx_C} {as : List zx_V} (hh : zx_recvr 0 ci h as = true) : ∃ ids r, as = .inr (.inl (ids, false)) :: r ∧ zx_objs h ci ids = true := by
  have h1 : zx_rc0 h ci as = true := hh
  unfold zx_rc0 at h1
  split at h1
  · exact ⟨_, _, rfl, h1⟩
  · cases h1
theorem zx_rc1_ok {as : List zx_V} (h1 : zx_rc1 as = true) : ∃ ids r, as = .inr (.inl (ids, false)) :: r := by
  unfold zx_rc1 at h1
  split at h1
  · exact ⟨_, _, rfl⟩
  · cases h1
theorem zx_recvr2 {ci : Nat} {h : List zx_C} {as : List zx_V} (hh : zx_recvr 2 ci h as = true) : ∃ ids r, as = .inr (.inl (ids, false)) :: r := zx_rc1_ok hh
theorem zx_recvr4 {ci : Nat} {h : List zx_C} {as : List zx_V} (hh : zx_recvr 4 ci h as = true) : ∃ ids r, as = .inr (.inl (ids, false)) :: r := zx_rc1_ok hh
section ZXC
variable {p : Program} {l : Launch} {e : Env} {R : Room} {s : State} {m : MethodId} {args : Array Value} {below : List Frame} {meth : Method} {c : Code} {Q : State → Prop}
variable {D : va_G} {cl : List vw_C} {A : Nat → Prop} {b : Nat} {ex ad0 : List Nat} {nL : Nat} {ρ : List Int} {G : zx_G} {h : List zx_C} {lv : List (Nat × zx_V)} {k : Nat × Nat} {sk : List zx_V} {H : Heap} {locs : List Loc} {ls : Array Slot} {kc : List Value} {tys : List (ClassId × FieldType)} {ws : va_W} {lc : List (Nat × Value)}
variable {cc : ByteArray} {pc : Nat} {M : zx_M} {own : String} {Ts nw : List Jvm.Cond} {sts : List (String × String × String × Nat)} {Y : zx_Y} {aos : List String} {dt : List (List Nat)} {PR : zx_PR} {rmt : List (Nat × Nat)} {f : zx_Fn} {d : Nat} {cf : Nat → Option (Nat × Nat × Nat × Nat)}
/-- behind a call that came back -/
theorem zx_run_W {rm : Nat × Nat} {os : List zx_Ou} {a : Array Value} {st0 rest : List Value} {rk : List zx_V} (hA : ∀ q, s.heap.size ≤ q → A q) (B : zx_B D cl A b ex ad0 nL s ρ h lv rk H locs ls rest tys ws lc) (hr : va_Run p l e R s m args below meth c H locs k.1 k.2 rm.1 rm.2 (F0 m pc ls st0) rest (zx_Qc D cl A b ex ρ ws os a) A)
    (K : ∀ q ∈ zx_back rk (k.1 + rm.1, k.2 + rm.2) os, ∀ (r2 : List Int) (H' : Heap) (locs' : List Loc) (kc' : List Value), zx_J D cl A b ex ad0 nL s (ρ ++ r2) q.1 q.2.1 lv q.2.2.1 H' locs' ls kc' → W p l e R s m args below meth c H' locs' q.2.2.2.1 q.2.2.2.2 Q (F0 m (pc + 3) ls kc')) : W p l e R s m args below meth c H locs k.1 k.2 Q (F0 m pc ls st0) := by
  intro T hT X
  obtain ⟨v, st₀, t, T', L, h0, X', hL, e1, e2, ⟨⟨o, ho, v', r2, tys', ws', hv, q1, q2, q3, q4, ⟨xt, q5⟩, q6, q7⟩, hz, hk⟩, st⟩ := hr T hT X
  cases hv
  rw [h0] at hz hk
  obtain ⟨b1, b2, b3, ⟨b4, ⟨xt0, b40⟩⟩, b5, b6, b7, b8⟩ := B
  have hS : va_S A s.heap T'.heap (locs ++ L) := ⟨Nat.le_trans b4.1 (by rw [e1]; exact hz), fun q h1 h2 => by rw [e1, hk q (Nat.lt_of_lt_of_le h1 b4.1) h2]; exact b4.2.1 q h1 h2, fun q hq => by
      rcases List.mem_append.mp hq with h | h
      · exact b4.2.2 q h
      · exact hL q h⟩
  have hvm : t.vm.Alike s.vm := by rw [← e2]; exact X'.warmed.alike.symm
  have hup : ∀ (x : zx_V) (y : Value), zx_R b ex ρ (zx_as ws) x y → zx_R b ex (ρ ++ r2) (zx_as ws') x y := fun x y hxy => by rw [q5]; exact zx_R_app hxy
  have J : zx_J D cl A b ex ad0 nL s (ρ ++ r2) o.1 o.2.1 lv (o.2.2.toList ++ rk) T'.heap (locs ++ L) ls (v.toList ++ rest) := by
    refine ⟨q1, tys', ws', lc, va_K.moved hvm q2, by rw [e1]; exact q3, q4, ⟨hS, xt0 ++ xt, by rw [q5, b40, List.append_assoc]⟩, q6, zx_F2_imp (fun _ _ q => ⟨q.1, hup _ _ q.2⟩) b6, b7, ?_⟩
    refine zx_F2_app (zx_F2_imp hup b8) ?_
    revert q7
    rcases o.2.2 with _ | av <;> rcases v with _ | xv
    · exact fun _ => trivial
    · exact fun q7 => q7.elim
    · exact fun q7 => q7.elim
    · exact fun q7 => ⟨q7, trivial⟩
  obtain ⟨t2, a1, c1⟩ := K _ (zx_back_mem ho) r2 T'.heap (locs ++ L) (v.toList ++ rest) J T' rfl X'
  exact ⟨t2, st t2 a1, c1⟩
theorem zx_call_ok {i : Instr} {ix : Nat × Nat} {z : List (zx_G × (List zx_C × (List zx_V × (Nat × Nat))))} (F : zx_FX p s m args meth c R cc own Ts nw cl A ex nL sts Y aos dt M) (hf : zx_FOK l cl Ts nw sts Y aos PR rmt d f) (hLK : zx_LK own cl Ts nw PR cf) (hgw : Ts.all goodWord = true) (hnk : nw.all zx_nk = true) (hroom : d + 1 ≤ R.frames ∧ 100 * (d + 1) ≤ R.locals) (hml : c.maxLocals = nL) (hinv : zx_inv i = some ix) (hd : decode cc pc = .ok (i, 3)) (hG : zx_ok ρ G) (B : zx_B D cl A b ex ad0 nL s ρ h lv sk H locs ls kc tys ws lc) (hz : zx_call M cf rmt f ix G h k sk = some z)
    (K : ∀ q ∈ z, ∀ (r2 : List Int) (H' : Heap) (locs' : List Loc) (kc' : List Value), zx_J D cl A b ex ad0 nL s (ρ ++ r2) q.1 q.2.1 lv q.2.2.1 H' locs' ls kc' → W p l e R s m args below meth c H' locs' q.2.2.2.1 q.2.2.2.2 Q (F0 m (pc + 3) ls kc')) : W p l e R s m args below meth c H locs k.1 k.2 Q (F0 m pc ls kc) := by
  obtain ⟨hx, hb, hown, hts, hnw, hA, hR, hin, hnL, hCX, hao, hCK, hMK⟩ := F
  have hsz : ls.size = nL := B.2.2.2.2.2.2.1.1
  unfold zx_call at hz
  split at hz
  · rename_i q hq
    obtain ⟨L5, L0⟩ := hLK ix.1 q hq
    split at hz
    · rename_i h5
      obtain ⟨m1, m2, m3⟩ := L5 h5.1
      have hi : i = .invokespecial ix.1 := by
        cases i <;> first | (cases hinv; rfl) | (cases hinv; exact nomatch h5.2) | cases hinv
      subst hi
      split at hz
      · rename_i ids r
        obtain ⟨x, kr, rfl, hv, B1⟩ := zx_top1 B
        split at hz
        · rename_i hc
          rcases hv with ⟨h4, -⟩ | ⟨i0, a, h4, h5, rfl⟩
          · cases h4
          · have hcat := zx_cats_ok B1.2.2.2.2.2.2.2
            refine W.objInit hx hb hown (hts _ m1) (hts _ m2) (hts _ m3) rfl (by rw [hml]; exact hsz) rfl hd (by omega) ?_ ?_
            · show 2 * 0 + (kr.map fun v => v.category).sum + 12 ≤ R.locals
              rw [hcat]; omega
            · have hz2 := zx_one hz
              exact K _ hz2 [] H locs kr (zx_J_same hG B1)
        · cases hz
      · cases hz
    · rename_i h5
      split at hz
      · rename_i rm hrm
        split at hz
        · rename_i hc
          obtain ⟨c0, c1, c2, c3, c4⟩ := hc
          split at hz
          · rename_i os hos
            cases hz
            have hne5 : q.1 ≠ 5 := fun g => by rw [g] at c0; cases c0
            obtain ⟨y, yc, maxL, ret, n1, n2, n3, n4, n5, n6, L0⟩ := L0 hne5
            have h8 := B.2.2.2.2.2.2.2
            have hlen := zx_F2_len h8
            obtain ⟨htk, hdr⟩ := zx_F2_take q.2.2.1 h8
            have hav := zx_F2_rev htk
            have hcat := zx_cats_ok hdr
            have hW8 : ((kc.drop q.2.2.1).map fun v => v.category).sum ≤ 8 := by rw [hcat]; exact c2
            have hk2 : k.1 + rm.1 ≤ R.cells ∧ k.2 + rm.2 ≤ R.slots := by
              unfold zx_le2 at c3
              rw [Bool.and_eq_true] at c3
              rw [hR.1, hR.2]
              exact ⟨Nat.le_of_ble_eq_true c3.1, Nat.le_of_ble_eq_true c3.2⟩
            have hM := hf q.2.1 y yc maxL ret rm n1 hrm G h _ os hos D A b ex ρ tys ws H.size (kc.take q.2.2.1).reverse hG B.2.2.2.2.1 hav (fun x hx => hA x (Nat.le_trans B.2.2.2.1.1.1 hx))
            have hrooms : ({ frames := d, cells := rm.1, slots := rm.2, locals := 100 * d } : Room).frames + 1 ≤ R.frames ∧ 8 + (maxL + 11) + ({ frames := d, cells := rm.1, slots := rm.2, locals := 100 * d } : Room).locals ≤ R.locals := ⟨hroom.1, by show 8 + (maxL + 11) + 100 * d ≤ R.locals; omega⟩
            have hgT : GoodIn Ts (Jvm.Cond.code y yc maxL ret :: Ts) := by
              intro w hw
              have hw2 : w ∈ Ts := (List.mem_cons.mp hw).elim (fun g => by rw [g]; exact n3) id
              exact ⟨hw2, good_of_word (List.all_eq_true.mp hgw w hw2)⟩
            have hgo : ∀ w ∈ Ts, w ∈ Ts ∧ ((w.onTables && w.keeps) = true ∨ ∃ ty, w = .arrayClass ty) := fun w hw => ⟨hw, good_of_word (List.all_eq_true.mp hgw w hw)⟩
            have hcall : CallFix p m c cc nL s args Ts own := ⟨hx, hb, hml, hown, hts⟩
            have hstk : kc = kc.take q.2.2.1 ++ kc.drop q.2.2.1 := (List.take_append_drop _ _).symm
            have hpre : ∀ U : State, U.heap = H → s.WarmedH U.vm → zx_Pc D cl A ex sts Y nw aos tys ws H.size (kc.take q.2.2.1).reverse (kc.take q.2.2.1).reverse.toArray U := fun U hU hW =>
              ⟨rfl, by rw [hU], by rw [hU]; exact B.2.1, va_K.moved hW.alike B.1, B.2.2.1, by rw [hU]; exact zx_CX_move hW.alike (fun a h1 h2 => B.2.2.2.1.1.2.1 a h1 h2) hCX, zx_nw_warm hnk hW hnw, fun C hC => va_AO.moved hW.alike (hao C hC)⟩
            have hbl : FrameBlind (zx_Pc D cl A ex sts Y nw aos tys ws H.size (kc.take q.2.2.1).reverse) := zx_blind hnk
            have hsub : zx_B D cl A b ex ad0 nL s ρ h lv (sk.drop q.2.2.1) H locs ls (kc.drop q.2.2.1) tys ws lc := zx_B_sk B hdr
            have hkl : (kc.take q.2.2.1).length = q.2.2.1 := by rw [← zx_F2_len htk]; exact c1
            -- the receiver, where there is one
            have hrec : ∀ (v : zx_V) (as : List zx_V), (sk.take q.2.2.1).reverse = v :: as → ∃ (x : Value) (As : List Value), (kc.take q.2.2.1).reverse = x :: As ∧ zx_R b ex ρ (zx_as ws) v x ∧ kc = As.reverse ++ x :: kc.drop q.2.2.1 ∧ As.length = q.2.2.1 - 1 := by
              intro v as hs
              rw [hs] at hav
              cases hr : (kc.take q.2.2.1).reverse with
              | nil => rw [hr] at hav; exact hav.elim
              | cons x As =>
                rw [hr] at hav
                have h9 : kc.take q.2.2.1 = As.reverse ++ [x] := by
                  have := congrArg List.reverse hr
                  rw [List.reverse_reverse, List.reverse_cons] at this
                  exact this
                refine ⟨x, As, rfl, hav.1, ?_, ?_⟩
                · have h10 := hstk
                  rw [h9, List.append_assoc] at h10
                  exact h10
                · have h11 := congrArg List.length h9
                  rw [hkl, List.length_append, List.length_reverse, List.length_singleton] at h11
                  omega
            rcases (show q.1 = 0 ∨ q.1 = 1 ∨ q.1 = 2 ∨ q.1 = 3 ∨ q.1 = 4 by
              unfold zx_kok at c0
              split at c0
              · exact Or.inl (by assumption)
              · exact Or.inr (Or.inl (by assumption))
              · exact Or.inr (Or.inr (Or.inr (Or.inl (by assumption))))
              · exact Or.inr (Or.inr (Or.inl (by assumption)))
              · exact Or.inr (Or.inr (Or.inr (Or.inr (by assumption))))
              · cases c0) with g | g | g | g | g
            · obtain ⟨j1, j2, j3, j4, T, N, j5⟩ := L0.1 g
              rw [g] at c0 c4
              have hi : i = .invokevirtual ix.1 := by
                cases i <;> first | (cases hinv; rfl) | (cases hinv; cases c0) | cases hinv
              subst hi
              obtain ⟨ids, as, hs, c4⟩ := zx_recvr0 c4
              obtain ⟨x, As, r1, r2, r3, r4⟩ := hrec _ _ hs
              rcases r2 with ⟨h4, -⟩ | ⟨i0, a, h4, h5, rfl⟩
              · cases h4
              · obtain ⟨o1, ss, o2⟩ := zx_objs_ok c4 h4
                obtain ⟨en, g1, fs, rfl, g2⟩ := zx_cell B o1 h5 o2
                rw [r1] at hM hpre hbl
                have hkk : W p l e R s m args below meth c H locs k.1 k.2 Q (F0 m pc ls (As.reverse ++ .ref a :: kc.drop q.2.2.1)) :=
                  zx_run_W hA hsub (va_runV (As := As) (rest := kc.drop q.2.2.1) hcall hM (cwV (q.2.2.1 - 1) hts (fun w hw => by
                    rcases List.mem_append.mp hw with hw | hw
                    · simp only [List.mem_cons, List.not_mem_nil, or_false] at hw
                      rcases hw with rfl | rfl | rfl | rfl
                      · exact hgo _ j1
                      · exact hgo _ j2
                      · exact hgo _ j3
                      · exact hgo _ n4
                    · exact hgT w hw) rfl rfl rfl ⟨rfl, n5, n6, j4⟩ hrooms) ⟨hbl, va_recv B.1 B.2.1 j5 g1, hpre⟩ rfl r4 hsz rfl (lv_room hW8) hd hk2) K
                rw [r3]
                exact hkk
            · obtain ⟨j1, j2, j3⟩ := L0.2.1 g
              rw [g] at c0
              have hi : i = .invokestatic ix.1 := by
                cases i <;> first | (cases hinv; rfl) | (cases hinv; cases c0) | cases hinv
              subst hi
              have hkk : W p l e R s m args below meth c H locs k.1 k.2 Q (F0 m pc ls ((kc.take q.2.2.1).reverse.reverse ++ kc.drop q.2.2.1)) :=
                zx_run_W hA hsub (va_runS (As := (kc.take q.2.2.1).reverse) (rest := kc.drop q.2.2.1) hcall hM (va_cwS q.2.2.1 hts (fun w hw => by
                  rcases List.mem_append.mp hw with hw | hw
                  · simp only [List.mem_cons, List.not_mem_nil, or_false] at hw
                    rcases hw with rfl | rfl | rfl
                    · exact hgo _ j1
                    · exact hgo _ j2
                    · exact hgo _ n4
                  · exact hgT w hw) rfl rfl rfl ⟨n5, n6, j3⟩ hrooms) ⟨hbl, hpre⟩ rfl (by rw [List.length_reverse]; exact hkl) hsz rfl (lv_room hW8) hd hk2) K
              rw [List.reverse_reverse, ← hstk] at hkk
              exact hkk
            · obtain ⟨j1, j2, j3, j4, j5⟩ := L0.2.2.1 g
              subst j4
              rw [g] at c0 c4
              have hi : i = .invokespecial ix.1 := by
                cases i <;> first | (cases hinv; rfl) | (cases hinv; cases c0) | cases hinv
              subst hi
              obtain ⟨ids, as, hs⟩ := zx_recvr2 c4
              obtain ⟨x, As, r1, r2, r3, r4⟩ := hrec _ _ hs
              rcases r2 with ⟨h4, -⟩ | ⟨i0, a, h4, h5, rfl⟩
              · cases h4
              · rw [r1] at hM hpre hbl
                have hkk : W p l e R s m args below meth c H locs k.1 k.2 Q (F0 m pc ls (As.reverse ++ .ref a :: kc.drop q.2.2.1)) :=
                  zx_run_W hA hsub (va_runI (As := As) (rest := kc.drop q.2.2.1) hcall hM (cwI (q.2.2.1 - 1) hts hgT rfl rfl rfl (hts _ n4) (hts _ j1) (hts _ j2) j3 ⟨n5, n6, j5⟩ hrooms) ⟨hbl, hpre⟩ rfl r4 hsz rfl (lv_room hW8) hd hk2) K
                rw [r3]
                exact hkk
            · obtain ⟨host, j1, j2, j3⟩ := L0.2.2.2.1 g
              rw [g] at c0
              have hi : i = .invokestatic ix.1 := by
                cases i <;> first | (cases hinv; rfl) | (cases hinv; cases c0) | cases hinv
              subst hi
              have hkk : W p l e R s m args below meth c H locs k.1 k.2 Q (F0 m pc ls ((kc.take q.2.2.1).reverse.reverse ++ kc.drop q.2.2.1)) :=
                zx_run_W hA hsub (va_runSN (As := (kc.take q.2.2.1).reverse) (rest := kc.drop q.2.2.1) hcall hM ⟨va_cnB (host := host) q.2.2.1 hts hgT rfl rfl rfl (hnw _ j1) (hts _ n4) ⟨n5, n6, j3⟩ hrooms, hts _ j2, trivial⟩ ⟨hbl, hpre⟩ rfl (by rw [List.length_reverse]; exact hkl) hsz rfl (lv_room hW8) hd hk2) K
              rw [List.reverse_reverse, ← hstk] at hkk
              exact hkk
            · obtain ⟨host, j1, j2, j3, j4, j5⟩ := L0.2.2.2.2 g
              subst j4
              rw [g] at c0 c4
              have hi : i = .invokespecial ix.1 := by
                cases i <;> first | (cases hinv; rfl) | (cases hinv; cases c0) | cases hinv
              subst hi
              obtain ⟨ids, as, hs⟩ := zx_recvr4 c4
              obtain ⟨x, As, r1, r2, r3, r4⟩ := hrec _ _ hs
              rcases r2 with ⟨h4, -⟩ | ⟨i0, a, h4, h5, rfl⟩
              · cases h4
              · rw [r1] at hM hpre hbl
                have hkk : W p l e R s m args below meth c H locs k.1 k.2 Q (F0 m pc ls (As.reverse ++ .ref a :: kc.drop q.2.2.1)) :=
                  zx_run_W hA hsub (va_runIN (As := As) (rest := kc.drop q.2.2.1) hcall hM ⟨va_cnB (host := host) (q.2.2.1 - 1) hts hgT rfl rfl rfl (hnw _ j1) (hts _ n4) ⟨n5, n6, j5⟩ hrooms, j3, hts _ j2⟩ ⟨hbl, hpre⟩ rfl r4 hsz rfl (lv_room hW8) hd hk2) K
                rw [r3]
                exact hkk
          · cases hz
        · cases hz
      · cases hz
  · cases hz
end ZXC
end
section
/-! zx: runs of whole methods are the machine's -/
def zx_end (b : Nat) (ex : List Nat) (ρ : List Int) (ad : List Nat) (rt : Nat) (ir : Instr) (o : zx_Ou) (kc : List Value) : Prop :=
  (ir = .return_ ∧ o.2.2 = none ∧ kc = [] ∧ rt = 4) ∨
  (ir = .ireturn ∧ ∃ (e : zx_L) (w : Int32), o.2.2 = some (.inl e) ∧ kc = [.int w] ∧ zx_ev ρ e = some w.toInt ∧ zx_fit o.1 rt (.inl e) = true) ∨
  (ir = .areturn ∧ ∃ (q : List Nat × Bool) (x : Value), o.2.2 = some (.inr (.inl q)) ∧ kc = [x] ∧ zx_R b ex ρ ad (.inr (.inl q)) x ∧ rt = 3) ∨
  (ir = .lreturn ∧ ∃ w : Int64, o.2.2 = some zx_lg ∧ kc = [.long w] ∧ rt = 2)
def zx_KO (p : Program) (l : Launch) (e : Env) (R : Room) (s : State) (m : MethodId) (args : Array Value) (below : List Frame) (meth : Method) (c : Code) (Q : State → Prop) (D : va_G) (cl : List vw_C) (A : Nat → Prop) (b : Nat) (ex ad0 : List Nat) (nL : Nat) (ρ : List Int) (cc : ByteArray) (rt : Nat) (rm : Nat × Nat) (os : List zx_Os) : Prop :=
  (∀ o : zx_Ou, .inl o ∈ os → ∀ (r2 : List Int) (H' : Heap) (locs' : List Loc) (ls' : Array Slot) (kc' : List Value) (pc' : Nat) (k' : Nat × Nat) (ir : Instr) (tys : List (ClassId × FieldType)) (ws : va_W), zx_ok (ρ ++ r2) o.1 → va_K D cl tys s → va_P D cl ws H' → va_D A ws → va_S A s.heap H' locs' → (∃ xt, zx_as ws = ad0 ++ xt) → zx_F2 (fun c q => zx_RC cl b ex (ρ ++ r2) (zx_as ws) tys c q.2) o.2.1 ws → k'.1 ≤ rm.1 → k'.2 ≤ rm.2 → decode cc pc' = .ok (ir, 1) → zx_end b ex (ρ ++ r2) (zx_as ws) rt ir o kc' →
    W p l e R s m args below meth c H' locs' k'.1 k'.2 Q (F0 m pc' ls' kc')) ∧
  (∀ q : Nat × zx_T, .inr q ∈ os → ∀ (r2 : List Int) (H' : Heap) (locs' : List Loc) (ls' : Array Slot) (kc' : List Value), zx_J D cl A b ex ad0 nL s (ρ ++ r2) q.2.1 q.2.2.1 q.2.2.2.1 q.2.2.2.2.1 H' locs' ls' kc' → W p l e R s m args below meth c H' locs' q.2.2.2.2.2.1 q.2.2.2.2.2.2 Q (F0 m q.1 ls' kc'))
def zx_TB (cc : ByteArray) (tbl : List (Nat × Instr × Nat)) : Prop := ∀ x ∈ tbl, decode cc x.1 = .ok (x.2.1, x.2.2) ∧ (zx_istab x.2.1 = true ∨ x.2.2 = zx_len x.2.1)
theorem zx_ex_nil {Y : zx_Y} {dt : List (List Nat)} {rmt : List (Nat × Nat)} {stp : Nat → Bool} {md : zx_MD} {f : zx_Fn} {n : Nat} {G : zx_G} {h : List zx_C} {lv : List (Nat × zx_V)} {k : Nat × Nat} {sk : List zx_V} : zx_ex Y dt rmt stp md f n [] G h lv k sk = none := by
  cases n
  · rfl
  · rfl
theorem zx_inv_len {i : Instr} {ix : Nat × Nat} (h : zx_inv i = some ix) : zx_istab i = false ∧ zx_len i = 3 := by
  cases i <;> first | exact ⟨rfl, rfl⟩ | cases h
theorem zx_retv_ok {b : Nat} {ex : List Nat} {ρ : List Int} {ad : List Nat} {i : Instr} {rt : Nat} {G : zx_G} {h : List zx_C} {sk : List zx_V} {kc : List Value} {os : List zx_Ou} (hr : zx_isret i = true) (hG : zx_ok ρ G) (hz : zx_retv i rt G h sk = some os) (h8 : zx_F2 (zx_R b ex ρ ad) sk kc) : zx_istab i = false ∧ zx_len i = 1 ∧ ∃ o, o ∈ os ∧ o.1 = G ∧ o.2.1 = h ∧ zx_end b ex ρ ad rt i o kc := by
  cases i <;> first | cases hr | skip
  · have hz : zx_rtA rt G h sk = some os := hz
    unfold zx_rtA at hz
    split at hz
    · rename_i q _
      split at hz
      · rename_i h3
        rcases kc with _ | ⟨x, kr⟩
        · exact h8.elim
        · rcases kr with _ | ⟨y, kr⟩
          · exact ⟨rfl, rfl, _, zx_one hz, rfl, rfl, Or.inr (Or.inr (Or.inl ⟨rfl, q, x, rfl, rfl, h8.1, h3⟩))⟩
          · exact h8.2.elim
      · cases hz
    · cases hz
  · have hz : zx_rtI rt G h sk = some os := hz
    unfold zx_rtI at hz
    split at hz
    · rename_i e1 _
      split at hz
      · rename_i h3
        rcases kc with _ | ⟨x, kr⟩
        · exact h8.elim
        · rcases kr with _ | ⟨y, kr⟩
          · obtain ⟨w, h4, h5⟩ := h8.1
            subst h4
            exact ⟨rfl, rfl, _, zx_one hz, rfl, rfl, Or.inr (Or.inl ⟨rfl, e1, w, rfl, rfl, h5, h3⟩)⟩
          · exact h8.2.elim
      · cases hz
    · cases hz
  · have hz : zx_rtL rt G h sk = some os := hz
    unfold zx_rtL at hz
    split at hz
    · split at hz
      · rename_i h3
        rcases kc with _ | ⟨x, kr⟩
        · exact h8.elim
        · rcases kr with _ | ⟨y, kr⟩
          · obtain ⟨w, h4⟩ := h8.1
            subst h4
            exact ⟨rfl, rfl, _, zx_one hz, rfl, rfl, Or.inr (Or.inr (Or.inr ⟨rfl, w, rfl, rfl, h3⟩))⟩
          · exact h8.2.elim
      · cases hz
    · cases hz
  · have hz : zx_rtV rt G h sk = some os := hz
    unfold zx_rtV at hz
    split at hz
    · split at hz
      · rename_i h3
        rcases kc with _ | ⟨x, kr⟩
        · exact ⟨rfl, rfl, _, zx_one hz, rfl, rfl, Or.inl ⟨rfl, rfl, rfl, h3⟩⟩
        · exact h8.elim
      · cases hz
    · cases hz
section ZXR
variable {p : Program} {l : Launch} {e : Env} {R : Room} {s : State} {m : MethodId} {args : Array Value} {below : List Frame} {meth : Method} {c : Code} {Q : State → Prop}
variable {D : va_G} {cl : List vw_C} {A : Nat → Prop} {b : Nat} {ex ad0 : List Nat} {nL : Nat}
variable {cc : ByteArray} {own : String} {Ts nw : List Jvm.Cond} {sts : List (String × String × String × Nat)} {Y : zx_Y} {aos : List String} {dt : List (List Nat)} {xs : Nat → Int32} {PR : zx_PR} {rmt : List (Nat × Nat)} {f : zx_Fn} {d : Nat} {md : zx_MD} {stp : Nat → Bool}
theorem zx_KO_mono {ρ r2 : List Int} {rt : Nat} {rm : Nat × Nat} {os os' : List zx_Os} (K : zx_KO p l e R s m args below meth c Q D cl A b ex ad0 nL ρ cc rt rm os) (hs : ∀ q ∈ os', q ∈ os) : zx_KO p l e R s m args below meth c Q D cl A b ex ad0 nL (ρ ++ r2) cc rt rm os' := by
  refine ⟨fun o ho r3 => ?_, fun q hq r3 => ?_⟩
  · rw [List.append_assoc]
    exact K.1 o (hs _ ho) (r2 ++ r3)
  · rw [List.append_assoc]
    exact K.2 q (hs _ hq) (r2 ++ r3)
theorem zx_SX_mono {M : zx_M} {ρ r2 : List Int} (S : zx_SX b xs A s M ρ) : zx_SX b xs A s M (ρ ++ r2) := by
  intro hx
  obtain ⟨L, h1, h2, h3, h4, h5, h6⟩ := S hx
  refine ⟨L, h1, h2, h3, h4, ?_, fun j hj => ?_⟩
  · rw [List.getElem?_append_left (List.getElem?_eq_some_iff.mp h5).1]; exact h5
  · rw [List.getElem?_append_left (List.getElem?_eq_some_iff.mp (h6 j hj)).1]; exact h6 j hj
theorem zx_ex_ok (F : zx_FX p s m args meth c R cc own Ts nw cl A ex nL sts Y aos dt md.2.1) (harr : ∀ ty ∈ [FieldType.int, FieldType.byte, FieldType.boolean, FieldType.long], Jvm.Cond.arrayClass ty ∈ Ts) (hf : zx_FOK l cl Ts nw sts Y aos PR rmt d f) (hLK : zx_LK own cl Ts nw PR md.2.2.1) (hgw : Ts.all goodWord = true) (hnk : nw.all zx_nk = true) (hroom : d + 1 ≤ R.frames ∧ 100 * (d + 1) ≤ R.locals) (hml : c.maxLocals = nL) (htbl : zx_TB cc md.1) :
    ∀ (n : Nat) (x : Nat × Instr × Nat) (nx : List (Nat × Instr × Nat)) (ρ : List Int) (G : zx_G) (h : List zx_C) (lv : List (Nat × zx_V)) (k : Nat × Nat) (sk : List zx_V) (os : List zx_Os) (H : Heap) (locs : List Loc) (ls : Array Slot) (kc : List Value), zx_SX b xs A s md.2.1 ρ → (∀ y ∈ x :: nx, y ∈ md.1) → zx_J D cl A b ex ad0 nL s ρ G h lv sk H locs ls kc → zx_ex Y dt rmt stp md f n (x :: nx) G h lv k sk = some os → zx_KO p l e R s m args below meth c Q D cl A b ex ad0 nL ρ cc md.2.2.2 (zx_mR md.2.1) os → W p l e R s m args below meth c H locs k.1 k.2 Q (F0 m x.1 ls kc) := by
  intro n
  induction n with
  | zero => intro x nx ρ G h lv k sk os H locs ls kc _ _ _ hz; cases hz
  | succ n ih =>
    intro x nx ρ G h lv k sk os H locs ls kc hS hsub J hz K
    rw [zx_ex_s] at hz
    unfold zx_ex1 at hz
    obtain ⟨hG, tys, ws, lc, B⟩ := J
    obtain ⟨hd, hlen⟩ := htbl x (hsub x List.mem_cons_self)
    have hnx : ∀ y ∈ nx, y ∈ md.1 := fun y hy => hsub y (List.mem_cons_of_mem _ hy)
    -- the way on
    have go : ∀ (q : Nat × zx_T) (os' : List zx_Os) (r2 : List Int) (H' : Heap) (locs' : List Loc) (ls' : Array Slot) (kc' : List Value), zx_on stp md.1 nx (zx_ex Y dt rmt stp md f n) q = some os' → (∀ q ∈ os', q ∈ os) → zx_J D cl A b ex ad0 nL s (ρ ++ r2) q.2.1 q.2.2.1 q.2.2.2.1 q.2.2.2.2.1 H' locs' ls' kc' → W p l e R s m args below meth c H' locs' q.2.2.2.2.2.1 q.2.2.2.2.2.2 Q (F0 m q.1 ls' kc') := by
      intro q os' r2 H' locs' ls' kc' he hso J'
      unfold zx_on at he
      split at he
      · exact K.2 q (hso _ (zx_one he)) r2 H' locs' ls' kc' J'
      · obtain ⟨g1, g2⟩ := zx_sk_ok (t := q.1) hnx
        cases hc : zx_sk md.1 nx q.1 with
        | nil => rw [hc, zx_ex_nil] at he; cases he
        | cons y r =>
          rw [hc] at he g1
          have hy := g2 y r hc
          rw [← hy]
          exact ih y r (ρ ++ r2) _ _ _ _ _ os' H' locs' ls' kc' (zx_SX_mono hS) g1 J' he (zx_KO_mono K hso)
    split at hz
    · rename_i ix hix
      split at hz
      · rename_i lst hl
        have hd3 : decode cc x.1 = .ok (x.2.1, 3) := by
          rw [hd]
          have h3 : x.2.2 = 3 := by rw [hlen.resolve_left (fun q => by rw [(zx_inv_len hix).1] at q; cases q)]; exact (zx_inv_len hix).2
          rw [h3]
        exact zx_call_ok F hf hLK hgw hnk hroom hml hix hd3 hG B hl (fun q hq r2 H' locs' kc' J' => by
          obtain ⟨os', h1, h2⟩ := zx_all_ok hz hq
          exact go (x.1 + 3, q.1, q.2.1, lv, q.2.2.1, q.2.2.2) os' r2 H' locs' ls kc' h1 h2 J')
      · cases hz
    · rename_i hix
      split at hz
      · rename_i hret
        split at hz
        · rename_i hk
          split at hz
          · rename_i lo hlo
            cases hz
            unfold zx_le2 at hk
            rw [Bool.and_eq_true] at hk
            have hk1 := Nat.le_of_ble_eq_true hk.1
            have hk2 := Nat.le_of_ble_eq_true hk.2
            obtain ⟨b1, b2, b3, ⟨b4, b40⟩, b5, b6, b7, b8⟩ := id B
            have hG0 : zx_ok (ρ ++ []) G := by rw [List.append_nil]; exact hG
            have b50 : zx_F2 (fun c q => zx_RC cl b ex (ρ ++ []) (zx_as ws) tys c q.2) h ws := by rw [List.append_nil]; exact b5
            obtain ⟨r0, r1, o, r2, r3, r4, r5⟩ := zx_retv_ok (b := b) (ex := ex) (ρ := ρ ++ []) (ad := zx_as ws) hret hG0 hlo (by rw [List.append_nil]; exact b8)
            have hd1 : decode cc x.1 = .ok (x.2.1, 1) := by rw [hd, hlen.resolve_left (fun q => by rw [r0] at q; cases q), r1]
            exact K.1 o (zx_lefts_mem r2) [] H locs ls kc x.1 k x.2.1 tys ws (by rw [r3]; exact hG0) b1 b2 b3 b4 b40 (by rw [r4]; exact b50) hk1 hk2 hd1 r5
          · cases hz
        · cases hz
      · split at hz
        · rename_i z hzs
          exact zx_step_ok F hS harr hd hlen hG B hzs (fun q hq r2 H' locs' ls' kc' J' => by
            obtain ⟨os', h1, h2⟩ := zx_all_ok hz hq
            exact go q os' r2 H' locs' ls' kc' h1 h2 J')
        · cases hz
end ZXR
/-! the contract of a run -/
def zx_rtok (ret : Option FieldType) (rt : Nat) : Prop := match ret with
  | none => rt = 4
  | some ty => zx_tag ty = rt ∧ rt ≠ 4 ∧ rt ≠ 9
/-- the tables of a method hold, and go with it -/
def zx_PK (cl : List vw_C) (Ts nw : List Jvm.Cond) (sts : List (String × String × String × Nat)) (aos : List String) (PR : zx_PR) (rmt : List (Nat × Nat)) (P : List (Option zx_MD)) : Prop :=
  ∀ (j : Nat) (md : zx_MD) (y : MethodName) (cc : ByteArray) (maxL : Nat) (ret : Option FieldType) (rm : Nat × Nat), P[j]? = some (some md) → PR[j]? = some (y, cc, maxL, ret) → rmt[j]? = some rm →
    plainName y.cls = true ∧ zx_mR md.2.1 = rm ∧ zx_mV md.2.1 = maxL ∧ zx_mX md.2.1 = false ∧ (zx_mB md.2.1 = true → y.name = "<init>") ∧ zx_MK y.cls cl Ts nw sts aos md.2.1 ∧ zx_LK y.cls cl Ts nw PR md.2.2.1 ∧ zx_TB cc md.1 ∧ zx_rtok ret md.2.2.2 ∧ (∃ x nx, md.1 = x :: nx ∧ x.1 = 0)
theorem zx_words {b : Nat} {ex : List Nat} {ρ : List Int} {ad : List Nat} : ∀ {as : List zx_V} {av : List Value}, zx_F2 (zx_R b ex ρ ad) as av → (lg_sl av).length = zx_cats as
  | [], [], _ => rfl
  | v :: r, x :: m, h => by
    show (lg_sl (x :: m)).length = zx_cat v + zx_cats r
    have h1 : lg_sl (x :: m) = (if x.category = 2 then [Slot.val x, Slot.second] else [Slot.val x]) ++ lg_sl m := by
      unfold lg_sl; rw [List.flatMap_cons]
    rw [h1, List.length_append, zx_words h.2, ← zx_R_cat h.1]
    rcases lv_cat x with g | g <;> simp [g]
  | [], _ :: _, h => h.elim
  | _ :: _, [], h => h.elim
theorem zx_fit4 {G : zx_G} {e : zx_L} (h : zx_fit G 4 (.inl e) = true) : False := by
  unfold zx_fit at h
  cases hq : zx_rng G e with
  | none => simp [hq] at h
  | some q => simp [hq] at h
theorem zx_run_ok {l : Launch} {cl : List vw_C} {Ts nw : List Jvm.Cond} {sts : List (String × String × String × Nat)} {Y : zx_Y} {aos : List String} {dt : List (List Nat)} {PR : zx_PR} {rmt : List (Nat × Nat)} {P : List (Option zx_MD)} {xf : zx_Fn} {fuel : Nat} (hPK : zx_PK cl Ts nw sts aos PR rmt P) (hCK : zx_CK cl Ts dt) (harr : ∀ ty ∈ [FieldType.int, FieldType.byte, FieldType.boolean, FieldType.long], Jvm.Cond.arrayClass ty ∈ Ts) (hgw : Ts.all goodWord = true) (hnk : nw.all zx_nk = true)
    (hxf : ∀ (d j : Nat), P[j]? = some none → zx_FJ l cl Ts nw sts Y aos PR rmt (d + 1) xf j) : ∀ d : Nat, zx_FOK l cl Ts nw sts Y aos PR rmt d (zx_run Y dt rmt P xf fuel d) := by
  intro d
  induction d with
  | zero =>
    intro j y cc maxL ret rm _ _ G h as os hz
    cases hz
  | succ d ih =>
    intro j y cc maxL ret rm hPR hrm G h as os hz D A b ex ρ tys ws sz av hG hh ha hA
    rw [zx_run_s] at hz
    unfold zx_run1 at hz
    split at hz
    · rename_i md hP
      split at hz
      · rename_i hcats
        split at hz
        case h_2 => cases hz
        rename_i lo hlo
        obtain ⟨k1, k2, k3, k4, k5, k6, k7, k8, k9, x, nx, k10, k11⟩ := hPK j md y cc maxL ret rm hP hPR hrm
        refine Met.ofW (cc := cc) (maxL := maxL) (ret := ret) k1 rfl ?_
        intro p e s m args below meth c s₁ B hml hv
        obtain ⟨rfl, hsz, hP, hK, hD, hCX, hnw, hao⟩ := hv
        have hx := B.exec
        have hb := B.bytes
        have hr := B.returns
        have hts0 := atoms_spec (ws := Jvm.Cond.code y cc maxL ret :: Ts) B.pre
        have hts : ∀ w ∈ Ts, w.before av.toArray s = true := fun w hw => hts0 w (List.mem_cons_of_mem _ hw)
        have hown : s.vm.findClass y.cls = some m.cls := findClass_of_methodNamed B.named
        have hlocks := B.notSynchronized
        have hin : meth.name = y.name := (name_of_methodNamed B.named B.method).1
        have hA' : ∀ q, s.heap.size ≤ q → A q := fun q hq => hA q (by rw [← hsz]; exact hq)
        have F : zx_FX p s m av.toArray meth c ({ frames := d + 1, cells := rm.1, slots := rm.2, locals := 100 * (d + 1) } : Room) cc y.cls Ts nw cl A ex maxL sts Y aos dt md.2.1 :=
          ⟨hx, hb, hown, hts, hnw, hA', ⟨by rw [k2], by rw [k2]⟩, fun q => by rw [hin]; exact k5 q, k3, hCX, hao, hCK, k6⟩
        have hl := lv_entry av (n := maxL) (by rw [zx_words ha, ← k3]; exact hcats)
        rw [lg_entry_eq]
        generalize (lg_sl av ++ List.replicate (maxL - (lg_sl av).length) Slot.unset).toArray = ls at hl ⊢
        have J : zx_J D cl A b ex (zx_as ws) maxL s ρ G h (zx_args 0 as) [] s.heap [] ls [] :=
          ⟨hG, tys, ws, lv_args 0 av, hK, hP, hD, ⟨va_S.rf, [], by rw [List.append_nil]⟩, hh, zx_args_ok 0 ha, hl, trivial⟩
        rw [k10] at hlo
        have gol : W p l e ({ frames := d + 1, cells := rm.1, slots := rm.2, locals := 100 * (d + 1) } : Room) s m av.toArray below meth c s.heap [] 0 0 (MQ below (zx_Qc D cl A b ex ρ ws os) av.toArray s rm.1 rm.2 A) (F0 m x.1 ls []) → W p l e (headSpec (Jvm.Cond.code y cc maxL ret :: Ts) ({ frames := d + 1, cells := rm.1, slots := rm.2, locals := 100 * (d + 1) } : Room)).room s m av.toArray below meth c s.heap [] 0 0 (MQ below (zx_Qc D cl A b ex ρ ws os) av.toArray s rm.1 rm.2 A) (F0 m 0 ls []) := by
          intro g; rw [k11] at g; exact g
        refine gol ?_
        refine zx_ex_ok (xs := fun _ => 0) F harr ih k7 hgw hnk ⟨Nat.le_refl _, Nat.le_refl _⟩ hml k8 fuel x nx ρ G h (zx_args 0 as) (0, 0) [] lo s.heap [] ls [] (fun q => by rw [k4] at q; cases q) (fun y hy => by rw [k10]; exact hy) J hlo ⟨?_, fun q hq => by obtain ⟨o, h1, h2⟩ := zx_inls_mem hz _ hq; cases h2⟩
        intro o ho0 r2 H' locs' ls' kc' pc' k' ir tys' ws' g1 g2 g3 g4 g5 g6 g7 g8 g9 g10 g11
        rw [k2] at g8 g9
        have ho : o ∈ os := by obtain ⟨o', h1, h2⟩ := zx_inls_mem hz _ ho0; cases h2; exact h1
        refine W.widen (k := rm.1) (n := rm.2) g8 g9 ?_
        have fin : ∀ (v : Option Value), zx_rv b ex (ρ ++ r2) (zx_as ws') o.2.2 v → ∀ t : State, t.heap = H' → s.WarmedH t.vm → zx_Qc D cl A b ex ρ ws os av.toArray s (.returned v) t := by
          intro v hv t ht hW
          exact ⟨⟨o, ho, v, r2, tys', ws', rfl, g1, va_K.moved hW.alike g2, by rw [ht]; exact g3, g4, g6, g7, hv⟩, g5.F ht⟩
        rcases g11 with ⟨rfl, e1, rfl, e2⟩ | ⟨rfl, e1, w, e2, rfl, e3, e4⟩ | ⟨rfl, q, x1, e2, rfl, e3, e4⟩ | ⟨rfl, w, e2, rfl, e4⟩
        · have hrn : ret = none := by
            cases ret with
            | none => rfl
            | some ty => exact absurd e2 k9.2.1
          subst hrn
          exact W.vret hx hb hr (fin none (by rw [e1]; exact trivial)) g5.2.2 g10
        · cases ret with
          | none =>
            have k9 : md.2.2.2 = 4 := k9
            rw [k9] at e4
            exact (zx_fit4 e4).elim
          | some ty =>
            have hx1 : zx_R b ex (ρ ++ r2) (zx_as ws') (.inl e1) (.int w) := ⟨w, rfl, e3⟩
            have hn := (zx_fit_ok (ty := ty) g1 (by rw [k9.1]; exact e4) hx1).1
            exact W.zret hx hb hr hn (fin (some (.int w)) (by rw [e2]; exact hx1)) g5.2.2 g10
        · cases ret with
          | none =>
            have k9 : md.2.2.2 = 4 := k9
            rw [k9] at e4; cases e4
          | some ty =>
            have hty : (∃ n, ty = .object n) ∨ ∃ t, ty = .array t := by
              have h9 := k9.1
              rw [e4] at h9
              cases ty <;> first | exact Or.inl ⟨_, rfl⟩ | exact Or.inr ⟨_, rfl⟩ | cases h9
            have hvx : x1 = .null ∨ ∃ a, x1 = .ref a := by
              rcases e3 with ⟨-, h1⟩ | ⟨i, a, -, -, h1⟩
              · exact Or.inl h1
              · exact Or.inr ⟨a, h1⟩
            exact W.aret hx hb hr hty hvx (fin (some x1) (by rw [e2]; exact e3)) g5.2.2 g10
        · cases ret with
          | none =>
            have k9 : md.2.2.2 = 4 := k9
            rw [k9] at e4; cases e4
          | some ty =>
            have hty : ty = .long := by
              have h9 := k9.1
              rw [e4] at h9
              cases ty <;> first | rfl | cases h9
            subst hty
            exact W.lret hx hb hr (fin (some (.long w)) (by rw [e2]; exact ⟨w, rfl⟩)) g5.2.2 g10
      · cases hz
    · rename_i hP
      exact hxf d j hP y cc maxL ret rm hPR hrm G h as os hz D A b ex ρ tys ws sz av hG hh ha hA
    · cases hz
end
