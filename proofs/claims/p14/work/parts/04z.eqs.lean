noncomputable section
/-! zv: equations between unknowns -/
def zv_co (x : Nat) : List (Nat × Int) → Int
  | [] => 0
  | q :: r => if Nat.beq q.1 x = true then q.2 else zv_co x r
def zv_eqs (i : Nat) : zx_G → List (Nat × zx_L)
  | [] => []
  | b :: r => match b.2 with
    | some e => (i, e) :: zv_eqs (i + 1) r
    | none => zv_eqs (i + 1) r
def zv_Q (ρ : List Int) (q : Nat × zx_L) : Prop := ∃ v, ρ[q.1]? = some v ∧ zx_ev ρ q.2 = some v
theorem zv_eqs_ok {ρ : List Int} {G : zx_G} (hG : zx_ok ρ G) : ∀ {H : zx_G} {i : Nat}, (∀ (k : Nat) (b : zx_b), H[k]? = some b → G[i + k]? = some b) → ∀ q ∈ zv_eqs i H, zv_Q ρ q
  | [], _, _, q, hq => nomatch hq
  | b :: r, i, hH, q, hq => by
    have hr : ∀ (k : Nat) (c : zx_b), r[k]? = some c → G[i + 1 + k]? = some c := fun k c hc => by
      have := hH (k + 1) c (by simpa using hc)
      rw [← this]; congr 1; omega
    rw [zv_eqs] at hq
    split at hq
    · rename_i e he
      rcases List.mem_cons.mp hq with h | h
      · subst h
        have h0 := hH 0 b rfl
        rw [Nat.add_zero] at h0
        have hl : i < ρ.length := by rw [hG.1]; exact (List.getElem?_eq_some_iff.mp h0).1
        exact ⟨ρ[i], List.getElem?_eq_getElem hl, (hG.2 i _ b (List.getElem?_eq_getElem hl) h0).2.2 e he⟩
      · exact zv_eqs_ok hG hr q h
    · exact zv_eqs_ok hG hr q hq
theorem zv_eqs0 {ρ : List Int} {G : zx_G} (hG : zx_ok ρ G) : ∀ q ∈ zv_eqs 0 G, zv_Q ρ q :=
  zv_eqs_ok hG (fun k b h => by rw [Nat.zero_add]; exact h)
theorem zv_var {ρ : List Int} {i : Nat} {v : Int} (h : ρ[i]? = some v) : zx_ev ρ ([(i, 1)], 0) = some v :=
  zx_ev_iff.mpr ⟨v, zx_evl_cons.mpr ⟨v, 0, h, rfl, by simp⟩, by simp⟩
def zv_z (i : Nat) (e : zx_L) : zx_L := zx_sub e ([(i, 1)], 0)
theorem zv_z_ok {ρ : List Int} {i : Nat} {e : zx_L} {v : Int} (h1 : ρ[i]? = some v) (h2 : zx_ev ρ e = some v) : zx_ev ρ (zv_z i e) = some 0 := by
  rw [zv_z, zx_sub_ev h2 (zv_var h1), Int.sub_self]
theorem zv_addz {ρ : List Int} {e z : zx_L} {v c : Int} (he : zx_ev ρ e = some v) (hz : zx_ev ρ z = some 0) : zx_ev ρ (zx_add e (zx_scale c z)) = some v := by
  rw [zx_add_ev he (zx_scale_ev c hz)]; simp
def zv_unit (c : Int) : Bool := decide (c = 1) || decide (c = -1)
def zv_al1 (q : Nat × zx_L) (f : zx_L) : zx_L := match q.2.1 with
  | [t] => if zv_unit t.2 = true then (if zv_co q.1 f.1 = 0 then f else zx_add f (zx_scale (zv_co q.1 f.1) (zv_z q.1 q.2))) else f
  | _ => f
def zv_al : List (Nat × zx_L) → zx_L → zx_L
  | [], f => f
  | q :: r, f => zv_al1 q (zv_al r f)
theorem zv_al_ok {ρ : List Int} {v : Int} : ∀ {Es : List (Nat × zx_L)} {f : zx_L}, (∀ q ∈ Es, zv_Q ρ q) → zx_ev ρ f = some v → zx_ev ρ (zv_al Es f) = some v
  | [], f, _, h => h
  | q :: r, f, hq, h => by
    have ih := zv_al_ok (fun x hx => hq x (List.mem_cons_of_mem _ hx)) h
    obtain ⟨u, h1, h2⟩ := hq q List.mem_cons_self
    rw [zv_al, zv_al1]
    split
    · split
      · split
        · exact ih
        · exact zv_addz ih (zv_z_ok h1 h2)
      · exact ih
    · exact ih
def zv_qn (Es : List (Nat × zx_L)) (q : Nat × zx_L) : zx_L := match q.2.1 with
  | [_] => zv_z q.1 q.2
  | _ => zv_z q.1 (zv_al Es q.2)
theorem zv_qn_ok {ρ : List Int} {Es : List (Nat × zx_L)} {q : Nat × zx_L} (hE : ∀ q ∈ Es, zv_Q ρ q) (hq : zv_Q ρ q) : zx_ev ρ (zv_qn Es q) = some 0 := by
  obtain ⟨u, h1, h2⟩ := hq
  rw [zv_qn]
  split
  · exact zv_z_ok h1 h2
  · exact zv_z_ok h1 (zv_al_ok hE h2)
def zv_qs (Es : List (Nat × zx_L)) : List (Nat × zx_L) → List zx_L
  | [] => []
  | q :: r => zv_qn Es q :: zv_qs Es r
def zv_qm (Es : List (Nat × zx_L)) : List (Nat × zx_L) → List zx_L
  | [] => []
  | q :: r => match q.2.1 with
    | [_] => zv_qm Es r
    | _ => zv_qn Es q :: zv_qm Es r
theorem zv_qs_ok {ρ : List Int} {Es : List (Nat × zx_L)} (hE : ∀ q ∈ Es, zv_Q ρ q) : ∀ {l : List (Nat × zx_L)}, (∀ q ∈ l, zv_Q ρ q) → ∀ z ∈ zv_qs Es l, zx_ev ρ z = some 0
  | [], _, z, hz => nomatch hz
  | q :: r, h, z, hz => by
    rw [zv_qs] at hz
    rcases List.mem_cons.mp hz with e | e
    · subst e; exact zv_qn_ok hE (h q List.mem_cons_self)
    · exact zv_qs_ok hE (fun x hx => h x (List.mem_cons_of_mem _ hx)) z e
theorem zv_qm_ok {ρ : List Int} {Es : List (Nat × zx_L)} (hE : ∀ q ∈ Es, zv_Q ρ q) : ∀ {l : List (Nat × zx_L)}, (∀ q ∈ l, zv_Q ρ q) → ∀ z ∈ zv_qm Es l, zx_ev ρ z = some 0
  | [], _, z, hz => nomatch hz
  | q :: r, h, z, hz => by
    have hr : ∀ q ∈ r, zv_Q ρ q := fun x hx => h x (List.mem_cons_of_mem _ hx)
    rw [zv_qm] at hz
    split at hz
    · exact zv_qm_ok hE hr z hz
    · rcases List.mem_cons.mp hz with e | e
      · subst e; exact zv_qn_ok hE (h q List.mem_cons_self)
      · exact zv_qm_ok hE hr z e
def zv_np1 (z e : zx_L) : List (Nat × Int) → zx_L
  | [] => e
  | t :: r => if zv_unit t.2 = true ∧ ¬ zv_co t.1 e.1 = 0 then (if (zx_add e (zx_scale (-(zv_co t.1 e.1 * t.2)) z)).1.length < e.1.length then zx_add e (zx_scale (-(zv_co t.1 e.1 * t.2)) z) else zv_np1 z e r) else zv_np1 z e r
theorem zv_np1_ok {ρ : List Int} {v : Int} {z e : zx_L} (hz : zx_ev ρ z = some 0) (he : zx_ev ρ e = some v) : ∀ {l : List (Nat × Int)}, zx_ev ρ (zv_np1 z e l) = some v
  | [] => he
  | t :: r => by
    rw [zv_np1]
    split
    · split
      · exact zv_addz he hz
      · exact zv_np1_ok hz he
    · exact zv_np1_ok hz he
def zv_np : List zx_L → zx_L → zx_L
  | [], e => e
  | z :: r, e => (fun (e1 : zx_L) => if e1.1.length < 2 then e1 else zv_np1 z e1 z.1) (zv_np r e)
theorem zv_np_ok {ρ : List Int} {v : Int} : ∀ {Z : List zx_L} {e : zx_L}, (∀ z ∈ Z, zx_ev ρ z = some 0) → zx_ev ρ e = some v → zx_ev ρ (zv_np Z e) = some v
  | [], _, _, h => h
  | z :: r, e, hZ, h => by
    have ih := zv_np_ok (fun x hx => hZ x (List.mem_cons_of_mem _ hx)) h
    show zx_ev ρ (if (zv_np r e).1.length < 2 then zv_np r e else zv_np1 z (zv_np r e) z.1) = some v
    split
    · exact ih
    · exact zv_np1_ok (hZ z List.mem_cons_self) ih
def zv_nrmE (Es : List (Nat × zx_L)) (e : zx_L) : zx_L := if e.1.length < 2 then e else (fun (Z : List zx_L) => zv_np Z (zv_np Z (zv_al Es e))) (zv_qs Es Es)
def zv_nrm (G : zx_G) (e : zx_L) : zx_L := if e.1.length < 2 then e else zv_nrmE (zv_eqs 0 G) e
theorem zv_nrmE_ok {ρ : List Int} {Es : List (Nat × zx_L)} (hE : ∀ q ∈ Es, zv_Q ρ q) {e : zx_L} {v : Int} (h : zx_ev ρ e = some v) : zx_ev ρ (zv_nrmE Es e) = some v := by
  rw [zv_nrmE]
  split
  · exact h
  · exact zv_np_ok (zv_qs_ok hE hE) (zv_np_ok (zv_qs_ok hE hE) (zv_al_ok hE h))
theorem zv_nrm_ok {ρ : List Int} {G : zx_G} (hG : zx_ok ρ G) {e : zx_L} {v : Int} (h : zx_ev ρ e = some v) : zx_ev ρ (zv_nrm G e) = some v := by
  rw [zv_nrm]
  split
  · exact h
  · exact zv_nrmE_ok (zv_eqs0 hG) h
/-! better bounds -/
def zv_c1 (Es : List (Nat × zx_L)) (Z : List zx_L) (e z : zx_L) : List (Nat × Int) → List zx_L
  | [] => []
  | t :: r => if zv_unit t.2 = true ∧ ¬ zv_co t.1 e.1 = 0 then (fun (f : zx_L) => f :: zv_np Z f :: zv_c1 Es Z e z r) (zv_al Es (zx_add e (zx_scale (-(zv_co t.1 e.1 * t.2)) z))) else zv_c1 Es Z e z r
def zv_c (Es : List (Nat × zx_L)) (Z : List zx_L) (e : zx_L) : List zx_L → List zx_L
  | [] => []
  | z :: r => zv_c1 Es Z e z z.1 ++ zv_c Es Z e r
section ZVC
variable {ρ : List Int} {v : Int} {Es : List (Nat × zx_L)} {Z : List zx_L} {e : zx_L}
theorem zv_c1_ok (hE : ∀ q ∈ Es, zv_Q ρ q) (hZ : ∀ z ∈ Z, zx_ev ρ z = some 0) (he : zx_ev ρ e = some v) {z : zx_L} (hz : zx_ev ρ z = some 0) : ∀ {l : List (Nat × Int)}, ∀ f ∈ zv_c1 Es Z e z l, zx_ev ρ f = some v
  | [], f, hf => nomatch hf
  | t :: r, f, hf => by
    rw [zv_c1] at hf
    split at hf
    · have h1 := zv_al_ok hE (zv_addz (c := -(zv_co t.1 e.1 * t.2)) he hz)
      rcases List.mem_cons.mp hf with h | h
      · subst h; exact h1
      · rcases List.mem_cons.mp h with h | h
        · subst h; exact zv_np_ok hZ h1
        · exact zv_c1_ok hE hZ he hz f h
    · exact zv_c1_ok hE hZ he hz f hf
theorem zv_c_ok (hE : ∀ q ∈ Es, zv_Q ρ q) (hZ : ∀ z ∈ Z, zx_ev ρ z = some 0) (he : zx_ev ρ e = some v) : ∀ {l : List zx_L}, (∀ z ∈ l, zx_ev ρ z = some 0) → ∀ f ∈ zv_c Es Z e l, zx_ev ρ f = some v
  | [], _, f, hf => nomatch hf
  | z :: r, hl, f, hf => by
    rw [zv_c] at hf
    rcases List.mem_append.mp hf with h | h
    · exact zv_c1_ok hE hZ he (hl z List.mem_cons_self) f h
    · exact zv_c_ok hE hZ he (fun x hx => hl x (List.mem_cons_of_mem _ hx)) f h
end ZVC
def zv_mx (a b : Int) : Int := if a ≤ b then b else a
def zv_mn (a b : Int) : Int := if a ≤ b then a else b
def zv_it (G : zx_G) : List zx_L → Int × Int → Int × Int
  | [], t => t
  | f :: r, t => match zx_rng G f with
    | some u => zv_it G r (zv_mx t.1 u.1, zv_mn t.2 u.2)
    | none => zv_it G r t
theorem zv_it_ok {ρ : List Int} {G : zx_G} (hG : zx_ok ρ G) {v : Int} : ∀ {l : List zx_L} {t : Int × Int}, (∀ f ∈ l, zx_ev ρ f = some v) → t.1 ≤ v ∧ v ≤ t.2 → (zv_it G l t).1 ≤ v ∧ v ≤ (zv_it G l t).2
  | [], t, _, h => h
  | f :: r, t, hl, h => by
    have hr : ∀ f ∈ r, zx_ev ρ f = some v := fun x hx => hl x (List.mem_cons_of_mem _ hx)
    rw [zv_it]
    split
    · rename_i u hu
      obtain ⟨k1, k2⟩ := zx_rng_ok hG hu (hl f List.mem_cons_self)
      refine zv_it_ok hG hr ⟨?_, ?_⟩
      · show zv_mx t.1 u.1 ≤ v
        rw [zv_mx]; split <;> omega
      · show v ≤ zv_mn t.2 u.2
        rw [zv_mn]; split <;> omega
    · exact zv_it_ok hG hr h
def zv_rn2 (G : zx_G) (Es : List (Nat × zx_L)) (a : zx_L) (Zm : List zx_L) : Option (Int × Int) := match zx_rng G a with
  | none => none
  | some t => match Zm with
    | [] => some t
    | _ => some ((fun (Z : List zx_L) => (fun (n : zx_L) => zv_it G (n :: (zv_c Es Z a Zm ++ (if n.1.length < 2 then [] else zv_c Es Z n Zm))) t) (zv_np Z a)) (zv_qs Es Es))
def zv_rn1 (G : zx_G) (Es : List (Nat × zx_L)) (a : zx_L) : Option (Int × Int) := if a.1.length < 2 then zx_rng G a else zv_rn2 G Es a (zv_qm Es Es)
def zv_rnE (G : zx_G) (e : zx_L) (Es : List (Nat × zx_L)) : Option (Int × Int) := zv_rn1 G Es (zv_al Es e)
def zv_rng (G : zx_G) (e : zx_L) : Option (Int × Int) := if e.1.length < 2 then zx_rng G e else zv_rnE G e (zv_eqs 0 G)
theorem zv_rn2_ok {ρ : List Int} {G : zx_G} (hG : zx_ok ρ G) {Es : List (Nat × zx_L)} (hE : ∀ q ∈ Es, zv_Q ρ q) {Zm : List zx_L} (hm : ∀ z ∈ Zm, zx_ev ρ z = some 0) {a : zx_L} {t : Int × Int} {v : Int} (h : zv_rn2 G Es a Zm = some t) (hv : zx_ev ρ a = some v) : t.1 ≤ v ∧ v ≤ t.2 := by
  rw [zv_rn2] at h
  split at h
  · cases h
  · rename_i t0 ht0
    have h0 := zx_rng_ok hG ht0 hv
    split at h
    · cases h; exact h0
    · cases h
      have hZ := zv_qs_ok hE hE
      have hn := zv_np_ok hZ hv
      refine zv_it_ok hG (fun f hf => ?_) h0
      rcases List.mem_cons.mp hf with h | h
      · subst h; exact hn
      · rcases List.mem_append.mp h with h | h
        · exact zv_c_ok hE hZ hv hm f h
        · split at h
          · cases h
          · exact zv_c_ok hE hZ hn hm f h
theorem zv_rng_ok {ρ : List Int} {G : zx_G} (hG : zx_ok ρ G) {e : zx_L} {t : Int × Int} {v : Int} (h : zv_rng G e = some t) (hv : zx_ev ρ e = some v) : t.1 ≤ v ∧ v ≤ t.2 := by
  rw [zv_rng] at h
  split at h
  · exact zx_rng_ok hG h hv
  · have hE := zv_eqs0 hG
    have ha := zv_al_ok hE hv
    rw [zv_rnE, zv_rn1] at h
    split at h
    · exact zx_rng_ok hG h ha
    · exact zv_rn2_ok hG hE (zv_qm_ok hE hE) h ha
/-! what follows from the equations -/
def zv_le (GX : zx_G) (k : Int) : List (Nat × Int) → List (Nat × Int) → zx_G → zx_G
  | _, [], G => G
  | pre, t :: r, G => match zv_rng GX (pre ++ r, 0) with
    | some u => zv_le GX k (pre ++ [t]) r (zx_t1 G t (k - u.1))
    | none => zv_le GX k (pre ++ [t]) r G
theorem zv_evl_mid {ρ : List Int} {t : Nat × Int} : ∀ {pre r : List (Nat × Int)} {w : Int}, zx_evl ρ (pre ++ t :: r) = some w → ∃ u w', ρ[t.1]? = some u ∧ zx_evl ρ (pre ++ r) = some w' ∧ w = t.2 * u + w'
  | [], r, w, h => by
    obtain ⟨v, u, h1, h2, h3⟩ := zx_evl_cons.mp h
    exact ⟨v, u, h1, h2, h3⟩
  | q :: pre, r, w, h => by
    obtain ⟨v, u, h1, h2, h3⟩ := zx_evl_cons.mp (show zx_evl ρ (q :: (pre ++ t :: r)) = some w from h)
    obtain ⟨u1, w1, g1, g2, g3⟩ := zv_evl_mid h2
    exact ⟨u1, q.2 * v + w1, g1, zx_evl_cons.mpr ⟨v, w1, h1, g2, rfl⟩, by omega⟩
theorem zv_le_ok {ρ : List Int} {GX : zx_G} (hX : zx_ok ρ GX) {k w : Int} (hw : w ≤ k) : ∀ {l pre : List (Nat × Int)} {G : zx_G}, zx_ok ρ G → zx_evl ρ (pre ++ l) = some w → zx_ok ρ (zv_le GX k pre l G)
  | [], _, _, hG, _ => hG
  | t :: r, pre, G, hG, h => by
    have h' : zx_evl ρ ((pre ++ [t]) ++ r) = some w := by rw [List.append_assoc]; exact h
    rw [zv_le]
    split
    · rename_i u hu
      refine zv_le_ok hX hw ?_ h'
      obtain ⟨x, w1, h1, h2, h3⟩ := zv_evl_mid h
      have := zv_rng_ok hX hu (zx_ev_iff.mpr ⟨w1, h2, rfl⟩)
      have h4 : u.1 ≤ w1 := by simpa using this.1
      exact zx_t1_ok hG h1 (by omega)
    · exact zv_le_ok hX hw hG h'
/-- the same bounds without the i-th equation -/
def zv_un (G : zx_G) (i : Nat) : zx_G := match zy_get G i with
  | some b => zy_set G i (b.1, none)
  | none => G
theorem zv_un_ok {ρ : List Int} {G : zx_G} (hG : zx_ok ρ G) {i : Nat} : zx_ok ρ (zv_un G i) := by
  rw [zv_un]
  split
  · rename_i b hb
    rw [zy_get_eq] at hb
    rw [zy_set_eq]
    refine ⟨by rw [List.length_set]; exact hG.1, fun j v c hv hc => ?_⟩
    by_cases hi : i = j
    · subst hi
      rw [List.getElem?_set] at hc
      simp only [if_true] at hc
      split at hc
      · cases hc
        obtain ⟨k1, k2, -⟩ := hG.2 i v b hv hb
        exact ⟨k1, k2, fun e he => by cases he⟩
      · cases hc
    · rw [List.getElem?_set, if_neg hi] at hc
      exact hG.2 j v c hv hc
  · exact hG
def zv_p1 (q : Nat × zx_L) (G : zx_G) : zx_G := (fun (z : zx_L) => (fun (G1 : zx_G) => (fun (y : zx_L) => zv_le (zv_un G1 q.1) (-y.2) [] y.1 G1) (zx_scale (-1) z)) (zv_le (zv_un G q.1) (-z.2) [] z.1 G)) (zv_z q.1 q.2)
theorem zv_p1_ok {ρ : List Int} {G : zx_G} (hG : zx_ok ρ G) {q : Nat × zx_L} (hq : zv_Q ρ q) : zx_ok ρ (zv_p1 q G) := by
  obtain ⟨v, h1, h2⟩ := hq
  have hz := zv_z_ok h1 h2
  have step : ∀ (y : zx_L) (H : zx_G), zx_ok ρ H → zx_ev ρ y = some 0 → zx_ok ρ (zv_le (zv_un H q.1) (-y.2) [] y.1 H) := by
    intro y H hH hy
    obtain ⟨w, g1, g2⟩ := zx_ev_iff.mp hy
    exact zv_le_ok (zv_un_ok hH) (by omega) hH g1
  exact step _ _ (step _ _ hG hz) (by have := zx_scale_ev (-1) hz; simpa using this)
def zv_hs (l : List Nat) (i : Nat) : Bool := match l with
  | [] => false
  | q :: r => Nat.beq q i || zv_hs r i
def zv_hst (S : List Nat) : List (Nat × Int) → Bool
  | [] => false
  | t :: r => zv_hs S t.1 || zv_hst S r
def zv_ps : List (Nat × zx_L) → zx_G × List Nat → zx_G × List Nat
  | [], a => a
  | q :: r, a => if (zv_hs a.2 q.1 || zv_hst a.2 q.2.1) = true then zv_ps r (zv_p1 q a.1, q.1 :: (q.2.1.map Prod.fst ++ a.2)) else zv_ps r a
theorem zv_ps_ok {ρ : List Int} : ∀ {l : List (Nat × zx_L)} {a : zx_G × List Nat}, (∀ q ∈ l, zv_Q ρ q) → zx_ok ρ a.1 → zx_ok ρ (zv_ps l a).1
  | [], _, _, h => h
  | q :: r, a, hl, h => by
    have hr : ∀ q ∈ r, zv_Q ρ q := fun x hx => hl x (List.mem_cons_of_mem _ hx)
    rw [zv_ps]
    split
    · exact zv_ps_ok hr (zv_p1_ok h (hl q List.mem_cons_self))
    · exact zv_ps_ok hr h
def zv_prE (Es : List (Nat × zx_L)) (G : zx_G) (x : Nat) : zx_G := match Es with
  | [] => G
  | _ => (zv_ps Es (zv_ps Es (G, [x]))).1
def zv_prop (G : zx_G) (x : Nat) : zx_G := zv_prE (zv_eqs 0 G) G x
theorem zv_prop_ok {ρ : List Int} {G : zx_G} (hG : zx_ok ρ G) {x : Nat} : zx_ok ρ (zv_prop G x) := by
  have hE := zv_eqs0 hG
  unfold zv_prop zv_prE
  split
  · exact hG
  · exact zv_ps_ok hE (zv_ps_ok hE hG)
def zv_fe : zx_G → Bool
  | [] => true
  | b :: r => decide (b.1.1 ≤ b.1.2) && zv_fe r
theorem zv_fe_of {G : zx_G} : ∀ {H : zx_G}, (∀ b ∈ H, b.1.1 ≤ b.1.2) → zv_fe H = true
  | [], _ => rfl
  | b :: r, h => by
    rw [zv_fe, Bool.and_eq_true, decide_eq_true_iff]
    exact ⟨h b List.mem_cons_self, zv_fe_of (G := G) (fun x hx => h x (List.mem_cons_of_mem _ hx))⟩
theorem zv_fe_ok {ρ : List Int} {G : zx_G} (hG : zx_ok ρ G) : zv_fe G = true := by
  refine zv_fe_of (G := G) (fun b hb => ?_)
  obtain ⟨i, hi⟩ := List.mem_iff_getElem?.mp hb
  have hl : i < ρ.length := by rw [hG.1]; exact (List.getElem?_eq_some_iff.mp hi).1
  obtain ⟨k1, k2, -⟩ := hG.2 i _ b (List.getElem?_eq_getElem hl) hi
  omega
/-- is there an equation? -/
def zv_any : zx_G → Bool
  | [] => false
  | b :: r => match b.2 with
    | some _ => true
    | none => zv_any r
end
