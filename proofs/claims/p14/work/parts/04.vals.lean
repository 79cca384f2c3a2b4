noncomputable section
/-! zx: values, arithmetic, comparisons -/
def zx_ad (ex ad : List Nat) (i : Nat) : Option Nat := if i < 64 then ex[i]? else ad[i - 64]?
def zx_R (b : Nat) (ex : List Nat) (ρ : List Int) (ad : List Nat) (v : zx_V) (x : Value) : Prop := match v with
  | .inl e => ∃ w : Int32, x = .int w ∧ zx_ev ρ e = some w.toInt
  | .inr (.inl r) => (r.2 = true ∧ x = .null) ∨ ∃ i a, i ∈ r.1 ∧ zx_ad ex ad i = some a ∧ x = .ref a
  | .inr (.inr true) => ∃ w : Int64, x = .long w
  | .inr (.inr false) => x = .ref b
theorem zx_ad_app {ex ad q : List Nat} {i a : Nat} (h : zx_ad ex ad i = some a) : zx_ad ex (ad ++ q) i = some a := by
  rw [zx_ad] at h ⊢
  by_cases hi : i < 64
  · rw [if_pos hi] at h ⊢; exact h
  · rw [if_neg hi] at h ⊢
    rw [List.getElem?_append_left (List.getElem?_eq_some_iff.mp h).1]; exact h
theorem zx_R_app {b : Nat} {ex : List Nat} {ρ r : List Int} {ad q : List Nat} {v : zx_V} {x : Value} (h : zx_R b ex ρ ad v x) : zx_R b ex (ρ ++ r) (ad ++ q) v x := by
  rcases v with e | k | k
  · obtain ⟨w, h1, h2⟩ := h
    exact ⟨w, h1, zx_ev_app h2⟩
  · rcases h with h | ⟨i, a, h1, h2, h3⟩
    · exact Or.inl h
    · exact Or.inr ⟨i, a, h1, zx_ad_app h2, h3⟩
  · cases k
    · exact h
    · exact h
theorem zx_R_up {b : Nat} {ex : List Nat} {ρ r : List Int} {ad : List Nat} {v : zx_V} {x : Value} (h : zx_R b ex ρ ad v x) : zx_R b ex (ρ ++ r) ad v x := by
  have h1 := zx_R_app (r := r) (q := []) h
  rwa [List.append_nil] at h1
def zx_cat (v : zx_V) : Nat := match v with
  | .inr (.inr true) => 2
  | _ => 1
theorem zx_R_cat {b : Nat} {ex : List Nat} {ρ : List Int} {ad : List Nat} {v : zx_V} {x : Value} (h : zx_R b ex ρ ad v x) : x.category = zx_cat v := by
  rcases v with e | k | k
  · obtain ⟨w, h1, h2⟩ := h; subst h1; rfl
  · rcases h with ⟨_, h⟩ | ⟨i, a, h1, h2, h3⟩
    · subst h; rfl
    · subst h3; rfl
  · cases k
    · have h1 : x = .ref b := h
      subst h1; rfl
    · obtain ⟨w, h1⟩ := h; subst h1; rfl
def zx_in (t : Int × Int) (lo hi : Int) : Bool := decide (lo ≤ t.1) && decide (t.2 ≤ hi)
theorem zx_in_iff {t : Int × Int} {lo hi : Int} : zx_in t lo hi = true ↔ lo ≤ t.1 ∧ t.2 ≤ hi := by
  rw [zx_in, Bool.and_eq_true, decide_eq_true_iff, decide_eq_true_iff]
def zx_fr (G : zx_G) (lo hi : Int) : zx_G × zx_V := (G ++ [((lo, hi), none)], .inl ([(G.length, 1)], 0))
abbrev zx_full (G : zx_G) : zx_G × zx_V := zx_fr G (-2147483648) 2147483647
/-- a result: maybe one unknown more, and the value -/
def zx_P (b : Nat) (ex : List Nat) (ρ : List Int) (ad : List Nat) (r : zx_G × zx_V) (x : Value) : Prop := ∃ r2, zx_ok (ρ ++ r2) r.1 ∧ zx_R b ex (ρ ++ r2) ad r.2 x
theorem zx_fr_ok {b : Nat} {ex : List Nat} {ρ : List Int} {ad : List Nat} {G : zx_G} (hG : zx_ok ρ G) {lo hi : Int} {w : Int32} (h1 : lo ≤ w.toInt) (h2 : w.toInt ≤ hi) : zx_P b ex ρ ad (zx_fr G lo hi) (.int w) :=
  ⟨[w.toInt], zx_ok_push hG h1 h2, w, rfl, zx_ev_new hG _⟩
theorem zx_i32 (w : Int32) : -2147483648 ≤ w.toInt ∧ w.toInt ≤ 2147483647 := ⟨w.le_toInt, by have := w.toInt_lt; omega⟩
theorem zx_full_ok {b : Nat} {ex : List Nat} {ρ : List Int} {ad : List Nat} {G : zx_G} (hG : zx_ok ρ G) {w : Int32} : zx_P b ex ρ ad (zx_full G) (.int w) := zx_fr_ok hG (zx_i32 w).1 (zx_i32 w).2
theorem zx_same_ok {b : Nat} {ex : List Nat} {ρ : List Int} {ad : List Nat} {G : zx_G} (hG : zx_ok ρ G) {e : zx_L} {w : Int32} (h : zx_ev ρ e = some w.toInt) : zx_P b ex ρ ad (G, .inl e) (.int w) :=
  ⟨[], by rw [List.append_nil]; exact hG, by rw [List.append_nil]; exact ⟨w, rfl, h⟩⟩
def zx_val (G : zx_G) (e : zx_L) : Option (zx_G × zx_V) := match zx_rng G e with
  | none => none
  | some t => if zx_in t (-2147483648) 2147483647 = true then some (G, .inl e) else some (zx_full G)
theorem zx_val_ok {b : Nat} {ex : List Nat} {ρ : List Int} {ad : List Nat} {G : zx_G} (hG : zx_ok ρ G) {e : zx_L} {v : Int} {w : Int32} {r : zx_G × zx_V} (h : zx_val G e = some r) (hv : zx_ev ρ e = some v) (hw : -2147483648 ≤ v → v ≤ 2147483647 → w.toInt = v) : zx_P b ex ρ ad r (.int w) := by
  rw [zx_val] at h
  split at h
  · cases h
  · rename_i t ht
    obtain ⟨k1, k2⟩ := zx_rng_ok hG ht hv
    split at h
    · rename_i hi
      obtain ⟨g1, g2⟩ := zx_in_iff.mp hi
      cases h
      exact zx_same_ok hG (by rw [hv, hw (by omega) (by omega)])
    · cases h; exact zx_full_ok hG
theorem zx_bm {v : Int} (h1 : -2147483648 ≤ v) (h2 : v ≤ 2147483647) : v.bmod (2 ^ 32) = v := Int.bmod_eq_of_le (by omega) (by omega)
theorem zx_addI (x y : Int32) (h1 : -2147483648 ≤ x.toInt + y.toInt) (h2 : x.toInt + y.toInt ≤ 2147483647) : (x + y).toInt = x.toInt + y.toInt := by rw [Int32.toInt_add, zx_bm h1 h2]
theorem zx_subI (x y : Int32) (h1 : -2147483648 ≤ x.toInt - y.toInt) (h2 : x.toInt - y.toInt ≤ 2147483647) : (x - y).toInt = x.toInt - y.toInt := by rw [Int32.toInt_sub, zx_bm h1 h2]
theorem zx_mulI (x y : Int32) (h1 : -2147483648 ≤ x.toInt * y.toInt) (h2 : x.toInt * y.toInt ≤ 2147483647) : (x * y).toInt = x.toInt * y.toInt := by rw [Int32.toInt_mul, zx_bm h1 h2]
theorem zx_ofI {n : Int} (h1 : -2147483648 ≤ n) (h2 : n ≤ 2147483647) : (Int32.ofInt n).toInt = n := Int32.toInt_ofInt_of_le (by omega) (by omega)
theorem zx_nat {x : Int32} (h : 0 ≤ x.toInt) : x = nI x.toInt.toNat ∧ x.toInt.toNat < 2 ^ 31 := by
  have h2 := (zx_i32 x).2
  refine ⟨Int32.toInt_inj.mp ?_, by omega⟩
  rw [nI_toInt (by omega)]; omega
theorem zx_divI {x y : Int32} (h1 : 0 ≤ x.toInt) (h2 : 0 < y.toInt) : (x / y).toInt = x.toInt / y.toInt := by
  obtain ⟨e1, l1⟩ := zx_nat h1
  obtain ⟨e2, l2⟩ := zx_nat (Int.le_of_lt h2)
  have h3 := pk_div (a := x.toInt.toNat) (d := y.toInt.toNat) l1 (by omega) l2
  rw [← e1, ← e2] at h3
  rw [h3, nI_toInt (Nat.lt_of_le_of_lt (Nat.div_le_self _ _) l1)]
  rw [Int.natCast_ediv, Int.toNat_of_nonneg h1, Int.toNat_of_nonneg (Int.le_of_lt h2)]
theorem zx_remI {x y : Int32} (h1 : 0 ≤ x.toInt) (h2 : 0 < y.toInt) : (x - x / y * y).toInt = x.toInt % y.toInt := by
  obtain ⟨e1, l1⟩ := zx_nat h1
  obtain ⟨e2, l2⟩ := zx_nat (Int.le_of_lt h2)
  have h3 := pk_rem (a := x.toInt.toNat) (d := y.toInt.toNat) l1 (by omega) l2
  rw [← e1, ← e2] at h3
  rw [h3, nI_toInt (Nat.lt_of_le_of_lt (Nat.mod_le _ _) l1)]
  rw [Int.natCast_emod, Int.toNat_of_nonneg h1, Int.toNat_of_nonneg (Int.le_of_lt h2)]
def zx_isc (e : zx_L) : Bool := match e.1 with
  | [] => true
  | _ :: _ => false
theorem zx_isc_ev {ρ : List Int} {e : zx_L} {v : Int} (h : zx_isc e = true) (hv : zx_ev ρ e = some v) : v = e.2 := by
  obtain ⟨u, h1, h2⟩ := zx_ev_iff.mp hv
  rcases e with ⟨l, k⟩
  cases l with
  | nil => cases h1; rw [h2]; simp
  | cons _ _ => cases h
def zx_mul (G : zx_G) (e f : zx_L) : Option (zx_G × zx_V) :=
  if zx_isc e = true then zx_val G (zx_scale e.2 f) else if zx_isc f = true then zx_val G (zx_scale f.2 e) else some (zx_full G)
/-- a number parted: how often, and the rest -/
def zx_qr (G : zx_G) (t : Int × Int) (e : zx_L) (n : Int) : zx_G := (G ++ [((t.1 / n, t.2 / n), none)]) ++ [((0, n - 1), some (zx_sub e ([(G.length, n)], 0)))]
theorem zx_qr_ok {ρ : List Int} {G : zx_G} (hG : zx_ok ρ G) {e : zx_L} {X n : Int} {t : Int × Int} (he : zx_ev ρ e = some X) (hn : 0 < n) (h1 : t.1 ≤ X) (h2 : X ≤ t.2) : ∃ r2, zx_ok (ρ ++ r2) (zx_qr G t e n) ∧ zx_ev (ρ ++ r2) ([(G.length, 1)], 0) = some (X / n) ∧ zx_ev (ρ ++ r2) ([(G.length + 1, 1)], 0) = some (X % n) := by
  have a1 := zx_ok_push hG (v := X / n) (b := (t.1 / n, t.2 / n)) (Int.ediv_le_ediv hn h1) (Int.ediv_le_ediv hn h2)
  have hq : zx_ev (ρ ++ [X / n]) ([(G.length, n)], 0) = some (n * (X / n)) := by
    refine zx_ev_iff.mpr ⟨n * (X / n), zx_evl_cons.mpr ⟨X / n, 0, ?_, rfl, by simp⟩, by simp⟩
    show (ρ ++ [X / n])[G.length]? = _
    rw [← hG.1]; simp
  have hr : zx_ev (ρ ++ [X / n]) (zx_sub e ([(G.length, n)], 0)) = some (X % n) := by
    rw [zx_sub_ev (zx_ev_app he) hq, Int.emod_def]
  have a2 := zx_ok_pushq a1 (v := X % n) (b := ((0, n - 1), some (zx_sub e ([(G.length, n)], 0)))) (Int.emod_nonneg _ (by omega)) (by have := Int.emod_lt_of_pos X hn; show X % n ≤ n - 1; omega) (fun e' he' => by cases he'; exact hr)
  rw [List.append_assoc] at a2
  refine ⟨[X / n] ++ [X % n], a2, ?_, ?_⟩
  · rw [← List.append_assoc]; exact zx_ev_app (zx_ev_new hG _)
  · rw [← List.append_assoc]
    have := zx_ev_new a1 (X % n)
    rw [List.length_append, List.length_singleton] at this
    exact this
def zx_div (G : zx_G) (e f : zx_L) : Option (zx_G × zx_V) := match zx_rng G e with
  | none => none
  | some t => if zx_isc f = true && decide (0 < f.2) then (if 0 ≤ t.1 then (if zx_isc e = true then some (G, .inl ([], e.2 / f.2)) else some (zx_qr G t e f.2, .inl ([(G.length, 1)], 0))) else some (zx_full G)) else none
def zx_rem (G : zx_G) (e f : zx_L) : Option (zx_G × zx_V) := match zx_rng G e with
  | none => none
  | some t => if zx_isc f = true && decide (0 < f.2) && decide (0 ≤ t.1) then (if zx_isc e = true then some (G, .inl ([], e.2 % f.2)) else some (zx_qr G t e f.2, .inl ([(G.length + 1, 1)], 0))) else none
/-- the last eight bits, where it is known what they are -/
def zx_a8 (G : zx_G) (e f : zx_L) : Option zx_L := if zx_isc f = true ∧ f.2 = 255 then (match zx_rng G e with
  | some t => if 0 ≤ t.1 ∧ t.2 ≤ 255 then some e else if -256 ≤ t.1 ∧ t.2 ≤ -1 then some (e.1, e.2 + 256) else none
  | none => none) else none
def zx_and (G : zx_G) (e f : zx_L) : Option (zx_G × zx_V) := match zx_a8 G e f with
  | some g => some (G, .inl g)
  | none => if zx_isc f = true && decide (f.2 = 255 ∨ f.2 = 31 ∨ f.2 = 1 ∨ f.2 = 15 ∨ f.2 = 3) then some (zx_fr G 0 f.2) else some (zx_full G)
section ZXA
variable {b : Nat} {ex : List Nat} {ρ : List Int} {ad : List Nat} {G : zx_G} {e f : zx_L} {x y : Int32} {r : zx_G × zx_V}
theorem zx_mul_ok (hG : zx_ok ρ G) (hx : zx_ev ρ e = some x.toInt) (hy : zx_ev ρ f = some y.toInt) (h : zx_mul G e f = some r) : zx_P b ex ρ ad r (.int (x * y)) := by
  rw [zx_mul] at h
  split at h
  · rename_i hc
    have h1 := zx_isc_ev hc hx
    refine zx_val_ok hG h (zx_scale_ev e.2 hy) (fun g1 g2 => ?_)
    rw [← h1] at g1 g2 ⊢
    exact zx_mulI x y g1 g2
  · split at h
    · rename_i hc
      have h1 := zx_isc_ev hc hy
      refine zx_val_ok hG h (zx_scale_ev f.2 hx) (fun g1 g2 => ?_)
      rw [← h1, Int.mul_comm] at g1 g2 ⊢
      exact zx_mulI x y g1 g2
    · cases h; exact zx_full_ok hG
theorem zx_div_ok (hG : zx_ok ρ G) (hx : zx_ev ρ e = some x.toInt) (hy : zx_ev ρ f = some y.toInt) (h : zx_div G e f = some r) : ¬ y = 0 ∧ zx_P b ex ρ ad r (.int (x / y)) := by
  rw [zx_div] at h
  split at h
  · cases h
  · rename_i t ht
    split at h
    · rename_i hc
      simp only [Bool.and_eq_true, decide_eq_true_iff] at hc
      obtain ⟨h1, h2⟩ := hc
      have k := zx_isc_ev h1 hy
      obtain ⟨g1, g2⟩ := zx_rng_ok hG ht hx
      have hy0 : 0 < y.toInt := by omega
      refine ⟨fun q => by rw [q] at hy0; exact absurd hy0 (by decide), ?_⟩
      split at h
      · rename_i h3
        have hx0 : 0 ≤ x.toInt := by omega
        split at h
        · rename_i h4
          cases h
          refine zx_same_ok hG ?_
          rw [zx_divI hx0 hy0, k, zx_isc_ev h4 hx]
          exact zx_ev_iff.mpr ⟨0, rfl, by simp⟩
        · cases h
          rw [← k]
          obtain ⟨r2, q1, q2, -⟩ := zx_qr_ok hG hx hy0 g1 g2
          exact ⟨r2, q1, x / y, rfl, by rw [zx_divI hx0 hy0]; exact q2⟩
      · cases h; exact zx_full_ok hG
    · cases h
theorem zx_rem_ok (hG : zx_ok ρ G) (hx : zx_ev ρ e = some x.toInt) (hy : zx_ev ρ f = some y.toInt) (h : zx_rem G e f = some r) : ¬ y = 0 ∧ zx_P b ex ρ ad r (.int (x - x / y * y)) := by
  rw [zx_rem] at h
  split at h
  · cases h
  · rename_i t ht
    split at h
    · rename_i hc
      simp only [Bool.and_eq_true, decide_eq_true_iff] at hc
      obtain ⟨⟨h1, h2⟩, h3⟩ := hc
      have k := zx_isc_ev h1 hy
      obtain ⟨g1, g2⟩ := zx_rng_ok hG ht hx
      have hx0 : 0 ≤ x.toInt := by omega
      have hy0 : 0 < y.toInt := by omega
      refine ⟨fun q => by rw [q] at hy0; exact absurd hy0 (by decide), ?_⟩
      split at h
      · rename_i h4
        cases h
        refine zx_same_ok hG ?_
        rw [zx_remI hx0 hy0, k, zx_isc_ev h4 hx]
        exact zx_ev_iff.mpr ⟨0, rfl, by simp⟩
      · cases h
        rw [← k]
        obtain ⟨r2, q1, -, q3⟩ := zx_qr_ok hG hx hy0 g1 g2
        exact ⟨r2, q1, x - x / y * y, rfl, by rw [zx_remI hx0 hy0]; exact q3⟩
    · cases h
theorem zx_andB (x m : Int32) (k : Nat) (hk : k ≤ 30) (hm : m.toBitVec.toNat = 2 ^ k - 1) : 0 ≤ (x &&& m).toInt ∧ (x &&& m).toInt ≤ 2 ^ k - 1 := by
  obtain ⟨j, h1, h2⟩ := pk_andE x k hm
  have h3 : 2 ^ k ≤ 2 ^ 30 := Nat.pow_le_pow_right (by decide) hk
  rw [h2, nI_toInt (by omega)]
  have h4 : ((2 ^ k : Nat) : Int) = (2 : Int) ^ k := by push_cast; rfl
  omega
theorem zx_and255 (x : Int32) : (x &&& 255).toInt = x.toInt % 256 := by
  have e1 : (x &&& 255).toInt = (x.toBitVec &&& 255#32).toInt := rfl
  have e2 : x.toInt = x.toBitVec.toInt := rfl
  rw [e1, e2, BitVec.toInt_eq_toNat_cond, BitVec.toInt_eq_toNat_cond, BitVec.toNat_and]
  have e3 : x.toBitVec.toNat &&& (255#32).toNat = x.toBitVec.toNat % 256 := Nat.and_two_pow_sub_one_eq_mod x.toBitVec.toNat 8
  rw [e3]
  have h := x.toBitVec.isLt
  split <;> split <;> omega
theorem zx_a8_ok (hG : zx_ok ρ G) (hx : zx_ev ρ e = some x.toInt) (hy : zx_ev ρ f = some y.toInt) {g : zx_L} (h : zx_a8 G e f = some g) : zx_ev ρ g = some (x &&& y).toInt := by
  unfold zx_a8 at h
  split at h
  case isFalse => cases h
  rename_i hc
  have k := zx_isc_ev hc.1 hy
  have hy2 : y = 255 := Int32.toInt_inj.mp (by rw [k, hc.2]; rfl)
  subst hy2
  rw [zx_and255]
  split at h
  case h_2 => cases h
  rename_i t ht
  obtain ⟨k1, k2⟩ := zx_rng_ok hG ht hx
  split at h
  · cases h
    rw [hx]
    congr 1
    omega
  · split at h
    · cases h
      obtain ⟨u, g1, g2⟩ := zx_ev_iff.mp hx
      refine zx_ev_iff.mpr ⟨u, g1, ?_⟩
      show _ = u + (e.2 + 256)
      omega
    · cases h
theorem zx_and_ok (hG : zx_ok ρ G) (hx : zx_ev ρ e = some x.toInt) (hy : zx_ev ρ f = some y.toInt) (h : zx_and G e f = some r) : zx_P b ex ρ ad r (.int (x &&& y)) := by
  rw [zx_and] at h
  split at h
  · rename_i g hg
    cases h
    exact ⟨[], by rw [List.append_nil]; exact hG, x &&& y, rfl, by rw [List.append_nil]; exact zx_a8_ok hG hx hy hg⟩
  split at h
  · rename_i hc
    simp only [Bool.and_eq_true, decide_eq_true_iff] at hc
    obtain ⟨h1, h2⟩ := hc
    have k := zx_isc_ev h1 hy
    cases h
    rw [← k] at h2 ⊢
    rcases h2 with q | q | q | q | q
    · have hy2 : y = 255 := Int32.toInt_inj.mp q
      subst hy2
      have h3 := zx_andB x 255 8 (by decide) (by decide)
      exact zx_fr_ok hG h3.1 h3.2
    · have hy2 : y = 31 := Int32.toInt_inj.mp q
      subst hy2
      have h3 := zx_andB x 31 5 (by decide) (by decide)
      exact zx_fr_ok hG h3.1 h3.2
    · have hy2 : y = 1 := Int32.toInt_inj.mp q
      subst hy2
      have h3 := zx_andB x 1 1 (by decide) (by decide)
      exact zx_fr_ok hG h3.1 h3.2
    · have hy2 : y = 15 := Int32.toInt_inj.mp q
      subst hy2
      have h3 := zx_andB x 15 4 (by decide) (by decide)
      exact zx_fr_ok hG h3.1 h3.2
    · have hy2 : y = 3 := Int32.toInt_inj.mp q
      subst hy2
      have h3 := zx_andB x 3 2 (by decide) (by decide)
      exact zx_fr_ok hG h3.1 h3.2
  · cases h; exact zx_full_ok hG
end ZXA
/-! comparisons -/
/-- one unknown's part of a sum is hi at most -/
def zx_t1 (G : zx_G) (q : Nat × Int) (hi : Int) : zx_G := match zy_get G q.1 with
  | none => G
  | some b => if 0 < q.2 then (if hi / q.2 < b.1.2 then zy_set G q.1 ((b.1.1, hi / q.2), b.2) else G) else if q.2 < 0 then (if b.1.1 < -(hi / -q.2) then zy_set G q.1 ((-(hi / -q.2), b.1.2), b.2) else G) else G
theorem zx_t1_ok {ρ : List Int} {G : zx_G} (hG : zx_ok ρ G) {q : Nat × Int} {hi u : Int} (h1 : ρ[q.1]? = some u) (h : q.2 * u ≤ hi) : zx_ok ρ (zx_t1 G q hi) := by
  rw [zx_t1]
  split
  · exact hG
  · rename_i b hb
    rw [zy_get_eq] at hb
    obtain ⟨g1, g2, g3⟩ := hG.2 _ _ _ h1 hb
    split
    · rename_i hc
      split
      · rw [zy_set_eq]
        refine zx_ok_set hG hb fun v' hv' => ?_
        rw [h1] at hv'; cases hv'
        exact ⟨g1, by show u ≤ hi / q.2; rw [Int.le_ediv_iff_mul_le hc, Int.mul_comm]; exact h⟩
      · exact hG
    · split
      · rename_i hc
        split
        · rw [zy_set_eq]
          refine zx_ok_set hG hb fun v' hv' => ?_
          rw [h1] at hv'; cases hv'
          have h2 : -u ≤ hi / -q.2 := by
            rw [Int.le_ediv_iff_mul_le (by omega), Int.neg_mul_neg, Int.mul_comm]
            exact h
          exact ⟨by show -(hi / -q.2) ≤ u; omega, g2⟩
        · exact hG
      · exact hG
/-- it is known that d ≤ k -/
def zx_le (G : zx_G) (d : zx_L) (k : Int) : zx_G := match d.1 with
  | [q] => zx_t1 G q (k - d.2)
  | [q, t] => match zx_rg G [q], zx_rg G [t] with
    | some a, some b => zx_t1 (zx_t1 G q (k - d.2 - b.1)) t (k - d.2 - a.1)
    | some _, none => G
    | none, _ => G
  | _ => G
theorem zx_ev1 {ρ : List Int} {q : Nat × Int} {c v : Int} (h : zx_ev ρ ([q], c) = some v) : ∃ u, ρ[q.1]? = some u ∧ v = q.2 * u + c := by
  obtain ⟨u, h1, h2⟩ := zx_ev_iff.mp h
  obtain ⟨v1, u1, g1, g2, g3⟩ := zx_evl_cons.mp h1
  cases g2
  exact ⟨v1, g1, by rw [h2, g3]; simp⟩
theorem zx_le_ok {ρ : List Int} {G : zx_G} (hG : zx_ok ρ G) {d : zx_L} {v k : Int} (hv : zx_ev ρ d = some v) (h : v ≤ k) : zx_ok ρ (zx_le G d k) := by
  rcases d with ⟨l, c⟩
  rw [zx_le]
  split
  · rename_i q hq
    have hq : l = [q] := hq
    subst hq
    obtain ⟨u, h1, h2⟩ := zx_ev1 hv
    exact zx_t1_ok hG h1 (by show q.2 * u ≤ k - c; omega)
  · rename_i q t hq
    have hq : l = [q, t] := hq
    subst hq
    obtain ⟨w, h1, h2⟩ := zx_ev_iff.mp hv
    obtain ⟨u1, w1, g1, g2, g3⟩ := zx_evl_cons.mp h1
    obtain ⟨u2, w2, g4, g5, g6⟩ := zx_evl_cons.mp g2
    cases g5
    have e2 : w = q.2 * u1 + t.2 * u2 := by rw [g3, g6]; omega
    have h2 : v = w + c := h2
    split
    · rename_i a b ha hb
      have r1 := zx_rg_ok hG ha (zx_evl_cons.mpr ⟨u1, 0, g1, rfl, rfl⟩)
      have r2 := zx_rg_ok hG hb (zx_evl_cons.mpr ⟨u2, 0, g4, rfl, rfl⟩)
      refine zx_t1_ok (zx_t1_ok hG g1 ?_) g4 ?_
      · show q.2 * u1 ≤ k - c - b.1; omega
      · show t.2 * u2 ≤ k - c - a.1; omega
    · exact hG
    · exact hG
  · exact hG
def zx_ge (G : zx_G) (d : zx_L) (k : Int) : zx_G := zx_le G (zx_scale (-1) d) (-k)
theorem zx_ge_ok {ρ : List Int} {G : zx_G} (hG : zx_ok ρ G) {d : zx_L} {v k : Int} (hv : zx_ev ρ d = some v) (h : k ≤ v) : zx_ok ρ (zx_ge G d k) :=
  zx_le_ok hG (zx_scale_ev (-1) hv) (by omega)
/-- the ways a comparison of d with 0 can go, each with what is known behind it -/
def zx_lt0 (w : Bool) (G : zx_G) (d : zx_L) (t : Int × Int) : List (Bool × zx_G) :=
  (if t.1 < 0 then [(w, zx_le G d (-1))] else []) ++ (if 0 ≤ t.2 then [(!w, zx_ge G d 0)] else [])
def zx_gt0 (w : Bool) (G : zx_G) (d : zx_L) (t : Int × Int) : List (Bool × zx_G) :=
  (if 0 < t.2 then [(w, zx_ge G d 1)] else []) ++ (if t.1 ≤ 0 then [(!w, zx_le G d 0)] else [])
def zx_eq0 (w : Bool) (G : zx_G) (d : zx_L) (t : Int × Int) : List (Bool × zx_G) :=
  (if t.1 ≤ 0 ∧ 0 ≤ t.2 then [(w, zx_ge (zx_le G d 0) d 0)] else []) ++ (if t.1 = 0 ∧ t.2 = 0 then [] else [(!w, if t.1 = 0 then zx_ge G d 1 else if t.2 = 0 then zx_le G d (-1) else G)])
def zx_cmp (c : ClassFile.Cond) (G : zx_G) (d : zx_L) (t : Int × Int) : List (Bool × zx_G) := match c with
  | .eq => zx_eq0 true G d t
  | .ne => zx_eq0 false G d t
  | .lt => zx_lt0 true G d t
  | .ge => zx_lt0 false G d t
  | .gt => zx_gt0 true G d t
  | .le => zx_gt0 false G d t
def zx_holds (c : ClassFile.Cond) (v : Int) : Prop := match c with
  | .eq => v = 0
  | .ne => ¬ v = 0
  | .lt => v < 0
  | .ge => 0 ≤ v
  | .gt => 0 < v
  | .le => v ≤ 0
theorem zx_lt0_ok {ρ : List Int} {G : zx_G} (hG : zx_ok ρ G) {d : zx_L} {v : Int} {t : Int × Int} (hv : zx_ev ρ d = some v) (ht : t.1 ≤ v ∧ v ≤ t.2) (w : Bool) : (v < 0 → ∃ G', (w, G') ∈ zx_lt0 w G d t ∧ zx_ok ρ G') ∧ (0 ≤ v → ∃ G', (!w, G') ∈ zx_lt0 w G d t ∧ zx_ok ρ G') := by
  refine ⟨fun h => ⟨_, List.mem_append_left _ ?_, zx_le_ok hG hv (k := -1) (by omega)⟩, fun h => ⟨_, List.mem_append_right _ ?_, zx_ge_ok hG hv (k := 0) h⟩⟩
  · rw [if_pos (by omega)]; exact List.mem_singleton.mpr rfl
  · rw [if_pos (by omega)]; exact List.mem_singleton.mpr rfl
theorem zx_gt0_ok {ρ : List Int} {G : zx_G} (hG : zx_ok ρ G) {d : zx_L} {v : Int} {t : Int × Int} (hv : zx_ev ρ d = some v) (ht : t.1 ≤ v ∧ v ≤ t.2) (w : Bool) : (0 < v → ∃ G', (w, G') ∈ zx_gt0 w G d t ∧ zx_ok ρ G') ∧ (v ≤ 0 → ∃ G', (!w, G') ∈ zx_gt0 w G d t ∧ zx_ok ρ G') := by
  refine ⟨fun h => ⟨_, List.mem_append_left _ ?_, zx_ge_ok hG hv (k := 1) (by omega)⟩, fun h => ⟨_, List.mem_append_right _ ?_, zx_le_ok hG hv (k := 0) h⟩⟩
  · rw [if_pos (by omega)]; exact List.mem_singleton.mpr rfl
  · rw [if_pos (by omega)]; exact List.mem_singleton.mpr rfl
theorem zx_eq0_ok {ρ : List Int} {G : zx_G} (hG : zx_ok ρ G) {d : zx_L} {v : Int} {t : Int × Int} (hv : zx_ev ρ d = some v) (ht : t.1 ≤ v ∧ v ≤ t.2) (w : Bool) : (v = 0 → ∃ G', (w, G') ∈ zx_eq0 w G d t ∧ zx_ok ρ G') ∧ (¬ v = 0 → ∃ G', (!w, G') ∈ zx_eq0 w G d t ∧ zx_ok ρ G') := by
  refine ⟨fun h => ⟨zx_ge (zx_le G d 0) d 0, List.mem_append_left _ ?_, zx_ge_ok (zx_le_ok hG hv (k := 0) (by omega)) hv (k := 0) (by omega)⟩, fun h => ⟨if t.1 = 0 then zx_ge G d 1 else if t.2 = 0 then zx_le G d (-1) else G, List.mem_append_right _ ?_, ?_⟩⟩
  · rw [if_pos (by omega)]; exact List.mem_singleton.mpr rfl
  · rw [if_neg (by omega)]; exact List.mem_singleton.mpr rfl
  · split
    · exact zx_ge_ok hG hv (by omega)
    · split
      · exact zx_le_ok hG hv (by omega)
      · exact hG
theorem zx_cmp_ok {ρ : List Int} {G : zx_G} (hG : zx_ok ρ G) {d : zx_L} {v : Int} {t : Int × Int} (hv : zx_ev ρ d = some v) (ht : zx_rng G d = some t) (c : ClassFile.Cond) : (zx_holds c v → ∃ G', (true, G') ∈ zx_cmp c G d t ∧ zx_ok ρ G') ∧ (¬ zx_holds c v → ∃ G', (false, G') ∈ zx_cmp c G d t ∧ zx_ok ρ G') := by
  have hr := zx_rng_ok hG ht hv
  cases c with
  | eq => exact zx_eq0_ok hG hv hr true
  | ne => exact ⟨(zx_eq0_ok hG hv hr false).2, fun h => (zx_eq0_ok hG hv hr false).1 (Decidable.not_not.mp h)⟩
  | lt => exact ⟨(zx_lt0_ok hG hv hr true).1, fun h => (zx_lt0_ok hG hv hr true).2 (Int.not_lt.mp h)⟩
  | ge => exact ⟨(zx_lt0_ok hG hv hr false).2, fun h => (zx_lt0_ok hG hv hr false).1 (Int.not_le.mp h)⟩
  | gt => exact ⟨(zx_gt0_ok hG hv hr true).1, fun h => (zx_gt0_ok hG hv hr true).2 (Int.not_lt.mp h)⟩
  | le => exact ⟨(zx_gt0_ok hG hv hr false).2, fun h => (zx_gt0_ok hG hv hr false).1 (Int.not_le.mp h)⟩
/-- an unknown is taken apart into its numbers, if they are few -/
def zx_cuts (G : zx_G) (x : Nat) (o : Option zx_L) (lo : Int) : Nat → List zx_G
  | 0 => []
  | n + 1 => zy_set G x ((lo, lo), o) :: zx_cuts G x o (lo + 1) n
theorem zx_cuts_ok {ρ : List Int} {G : zx_G} (hG : zx_ok ρ G) {x : Nat} {v : Int} {g : zx_b} (hg : G[x]? = some g) (hv : ρ[x]? = some v) : ∀ (n : Nat) (lo : Int), lo ≤ v → v < lo + n → ∃ G' ∈ zx_cuts G x g.2 lo n, zx_ok ρ G'
  | 0, lo, h1, h2 => absurd h2 (by omega)
  | n + 1, lo, h1, h2 => by
    rw [zx_cuts]
    by_cases h : v = lo
    · refine ⟨_, List.mem_cons_self, ?_⟩
      rw [zy_set_eq]
      exact zx_ok_set hG hg fun v' hv' => by rw [hv] at hv'; cases hv'; exact ⟨h1, by show v ≤ lo; omega⟩
    · obtain ⟨G', h3, h4⟩ := zx_cuts_ok hG hg hv n (lo + 1) (by omega) (by omega)
      exact ⟨G', List.mem_cons_of_mem _ h3, h4⟩
def zx_split (G : zx_G) (e : zx_L) : Option (List zx_G) := match e.1 with
  | [] => some [G]
  | [q] => match zy_get G q.1 with
    | none => none
    | some b => if b.1.2 - b.1.1 ≤ 66 then some (zx_cuts G q.1 b.2 b.1.1 (b.1.2 - b.1.1 + 1).toNat) else none
  | _ => none
theorem zx_split_ok {ρ : List Int} {G : zx_G} (hG : zx_ok ρ G) {e : zx_L} {v : Int} (hv : zx_ev ρ e = some v) {l : List zx_G} (h : zx_split G e = some l) : ∃ G' ∈ l, zx_ok ρ G' := by
  rcases e with ⟨m, c⟩
  rw [zx_split] at h
  split at h
  · cases h; exact ⟨G, List.mem_singleton.mpr rfl, hG⟩
  · rename_i q hq
    have hq : m = [q] := hq
    subst hq
    obtain ⟨u, h1, h2⟩ := zx_ev1 hv
    split at h
    · cases h
    · rename_i b hb
      rw [zy_get_eq] at hb
      obtain ⟨g1, g2, -⟩ := hG.2 _ _ _ h1 hb
      split at h
      · cases h
        exact zx_cuts_ok hG hb h1 _ _ g1 (by omega)
      · cases h
  · cases h
/-- the ways of a switch: below, above, each number between -/
def zx_tmid (G : zx_G) (x : zx_L) (v : Int) : Nat → List zx_G
  | 0 => []
  | n + 1 => zx_ge (zx_le G x v) x v :: zx_tmid G x (v + 1) n
theorem zx_tmid_ok {ρ : List Int} {G : zx_G} (hG : zx_ok ρ G) {x : zx_L} {w : Int} (hw : zx_ev ρ x = some w) : ∀ (n : Nat) (v : Int), v ≤ w → w < v + n → ∃ G' ∈ zx_tmid G x v n, zx_ok ρ G'
  | 0, v, h1, h2 => absurd h2 (by omega)
  | n + 1, v, h1, h2 => by
    rw [zx_tmid]
    by_cases h : w = v
    · exact ⟨_, List.mem_cons_self, zx_ge_ok (zx_le_ok hG hw (by omega)) hw (by omega)⟩
    · obtain ⟨G', h3, h4⟩ := zx_tmid_ok hG hw n (v + 1) (by omega) (by omega)
      exact ⟨G', List.mem_cons_of_mem _ h3, h4⟩
def zx_tcuts (G : zx_G) (x : zx_L) (t : Int × Int) (lo hi : Int) : List zx_G :=
  (if t.1 < lo then [zx_le G x (lo - 1)] else []) ++ ((if hi < t.2 then [zx_ge G x (hi + 1)] else []) ++ (let a := if lo < t.1 then t.1 else lo; let b := if t.2 < hi then t.2 else hi; zx_tmid G x a (b - a + 1).toNat))
theorem zx_tcuts_ok {ρ : List Int} {G : zx_G} (hG : zx_ok ρ G) {x : zx_L} {w : Int} {t : Int × Int} {lo hi : Int} (hw : zx_ev ρ x = some w) (ht : t.1 ≤ w ∧ w ≤ t.2) : ∃ G' ∈ zx_tcuts G x t lo hi, zx_ok ρ G' := by
  unfold zx_tcuts
  by_cases h1 : w < lo
  · exact ⟨_, List.mem_append_left _ (by rw [if_pos (by omega)]; exact List.mem_singleton.mpr rfl), zx_le_ok hG hw (by omega)⟩
  · by_cases h2 : hi < w
    · exact ⟨_, List.mem_append_right _ (List.mem_append_left _ (by rw [if_pos (by omega)]; exact List.mem_singleton.mpr rfl)), zx_ge_ok hG hw (by omega)⟩
    · obtain ⟨G', h3, h4⟩ := zx_tmid_ok hG hw ((if t.2 < hi then t.2 else hi) - (if lo < t.1 then t.1 else lo) + 1).toNat (if lo < t.1 then t.1 else lo) (by split <;> omega) (by split <;> split <;> omega)
      exact ⟨G', List.mem_append_right _ (List.mem_append_right _ h3), h4⟩
/-- every one of a list gives its ways; all of them -/
def zx_all {α β : Type} (f : α → Option (List β)) : List α → Option (List β)
  | [] => some []
  | a :: t => match f a, zx_all f t with
    | some x, some y => some (x ++ y)
    | some _, none => none
    | none, _ => none
theorem zx_all_ok {α β : Type} {f : α → Option (List β)} : ∀ {l : List α} {r : List β} {a : α}, zx_all f l = some r → a ∈ l → ∃ x, f a = some x ∧ ∀ q ∈ x, q ∈ r
  | [], _, _, _, h => nomatch h
  | a0 :: t, r, a, h, ha => by
    rw [zx_all] at h
    split at h
    · rename_i x y hx hy
      cases h
      rcases List.mem_cons.mp ha with e | e
      · subst e; exact ⟨x, hx, fun q hq => List.mem_append_left _ hq⟩
      · obtain ⟨x', h1, h2⟩ := zx_all_ok hy e
        exact ⟨x', h1, fun q hq => List.mem_append_right _ (h2 q hq)⟩
    · cases h
    · cases h
end
