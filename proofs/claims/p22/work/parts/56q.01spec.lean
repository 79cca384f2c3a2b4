noncomputable section
/-! zm: sets on wagons: what is reached, and rows wanted -/
def zm_w (s : Nat) : Nat := if s = 0 then 1 else if s = 1 then 5 else if s = 2 then 25 else 125
def zm_pl (k s : Nat) : Nat := k / zm_w s % 5
def zm_fr (k : Nat) : Int := 10 - (zm_pl k 0 : Int) - (zm_pl k 1 : Int) - (zm_pl k 2 : Int) - (zm_pl k 3 : Int)
/-- a set to the free place -/
def zm_md (k s f : Nat) : Nat := k + f * zm_w s - zm_pl k s * zm_w s
theorem zm_w_lt (s : Nat) : 0 < zm_w s ∧ zm_w s ≤ 125 := by
  unfold zm_w
  split
  · omega
  · split
    · omega
    · split <;> omega
theorem zm_pl_lt (k s : Nat) : zm_pl k s < 5 := Nat.mod_lt _ (by decide)
theorem zm_md_lt : ∀ k, k < 625 → ∀ s, s < 4 → ∀ f, f < 5 → zm_md k s f < 625 ∧ zm_pl k s * zm_w s ≤ k := by decide +kernel
/-- the class: reached once more -/
def zm_rch (L : List Nat) (y : Nat) : List Nat := if L.contains y = false ∧ L.length < 120 then L ++ [y] else L
def zm_near : List Int := [1, 2, 3, 0, 4, (-1), 0, (-1), (-1), 0, 4, (-1), 1, 3, (-1)]
/-- sets s .. 3 that stand at a place -/
def zm_ms (st f : Nat) (fr : Int) : Nat → Nat → List Nat → List Nat
  | 0, _, L => L
  | n + 1, s, L => if (zm_pl st s : Int) = fr then zm_ms st f fr n (s + 1) (zm_rch L (zm_md st s f)) else zm_ms st f fr n (s + 1) L
def zm_mk (st f : Nat) : Nat → Nat → List Nat → List Nat
  | 0, _, L => L
  | n + 1, k, L => zm_mk st f n (k + 1) (zm_ms st f (zm_near.getD (f * 3 + k) 0) 4 0 L)
def zm_mv (L : List Nat) (st : Nat) : List Nat := if 0 ≤ zm_fr st ∧ zm_fr st < 5 then zm_mk st (zm_fr st).toNat 3 0 L else L
/-- from the i-th on, n of them -/
def zm_sp : Nat → Nat → List Nat → List Nat
  | 0, _, L => L
  | n + 1, i, L => zm_sp n (i + 1) (zm_mv L (L.getD i 0))
def zm_spr (L : List Nat) : List Nat := zm_sp L.length 0 L
def zm_sh (set : Nat) (L : List Nat) : Bool := L.any (fun x => Nat.beq (zm_pl x set) 0)
def zm_few (set most : Nat) : Nat → Nat → List Nat → Int
  | 0, _, _ => -1
  | n + 1, k, L => if most < k then -1 else if zm_sh set L = true then (k : Int) else zm_few set most n (k + 1) (zm_spr L)
/-- the reference: places beside one another -/
def zm_an (a b : Int) : Bool := (fun (lo hi : Int) => (decide (lo = 0) && decide (hi < 4)) || (decide (hi = 4) && (decide (lo = 1) || decide (lo = 3)))) (if a < b then a else b) (if a < b then b else a)
theorem zm_an_b {a b : Int} (h : zm_an a b = true) (h0 : 0 ≤ a) (h4 : a ≤ 4) : 0 ≤ b ∧ b ≤ 4 := by
  unfold zm_an at h
  simp only [Bool.or_eq_true, Bool.and_eq_true, decide_eq_true_iff] at h
  by_cases hab : a < b
  · rw [if_pos hab, if_pos hab] at h
    omega
  · rw [if_neg hab, if_neg hab] at h
    omega
def zm_gs (k : Nat) (f : Int) : Nat → Nat → List Nat → Bool → List Nat × Bool
  | 0, _, L, m => (L, m)
  | n + 1, s, L, m => if zm_an (zm_pl k s) f = true ∧ L.contains (zm_md k s f.toNat) = false then zm_gs k f n (s + 1) (zm_md k s f.toNat :: L) true else zm_gs k f n (s + 1) L m
def zm_gk (W : List Nat) : Nat → Nat → List Nat → Bool → List Nat × Bool
  | 0, _, L, m => (L, m)
  | n + 1, k, L, m => if W.contains k = true then (match zm_gs k (zm_fr k) 4 0 L m with
    | (L', m') => zm_gk W n (k + 1) L' m') else zm_gk W n (k + 1) L m
def zm_go (L : List Nat) : List Nat × Bool := zm_gk L 625 0 L false
def zm_can (set : Nat) (L : List Nat) : Nat → Nat → Bool
  | 0, _ => false
  | n + 1, k => if L.contains k = true ∧ zm_pl k set = 0 then true else zm_can set L n (k + 1)
def zm_fewR (set most : Nat) : Nat → Nat → List Nat → Int
  | 0, _, _ => -1
  | n + 1, k, L => if most < k then -1 else if zm_can set L 625 0 = true then (k : Int) else (match zm_go L with
    | (L', true) => zm_fewR set most n (k + 1) L'
    | (_, false) => -1)
set_option maxRecDepth 100000 in
/-- both find the same -/
theorem zm_same : ∀ set, set < 4 → ∀ most, most < 41 → zm_few set most 42 0 [430] = zm_fewR set most 42 0 [430] := by decide +kernel
set_option maxRecDepth 100000 in
theorem zm_few_b : ∀ set, set < 4 → ∀ most, most < 41 → -1 ≤ zm_few set most 42 0 [430] ∧ zm_few set most 42 0 [430] ≤ 41 := by decide +kernel
end
