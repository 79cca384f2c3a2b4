noncomputable section
/-! zx: a run on some cells serves wherever such cells stand -/
theorem zx_room_le {s : State} {pl : Platform} {r r' : Room} (h : s.hasRoom pl r = true) (h1 : r'.frames ≤ r.frames) (h2 : r'.cells ≤ r.cells) (h3 : r'.slots ≤ r.slots) (h4 : r'.locals ≤ r.locals) : s.hasRoom pl r' = true := by
  unfold State.hasRoom at h ⊢
  simp only [Bool.and_eq_true, decide_eq_true_iff] at h ⊢
  obtain ⟨⟨⟨⟨a, b1, b2, b3, b4, b5⟩, c⟩, d⟩, e⟩ := h
  exact ⟨⟨⟨⟨by omega, by omega, by omega, by omega, by omega, b5⟩, by omega⟩, by omega⟩, e⟩
theorem zx_Met_imp {l : Launch} {y : MethodName} {ws : List Jvm.Cond} {R R' : Room} {P P' : Array Value → State → Prop} {Q Q' : Array Value → State → Outcome → State → Prop} {mc ms : Nat} {A A' : Nat → Prop} (hM : Met l y ws R P Q mc ms A) (hR : R.frames ≤ R'.frames ∧ R.cells ≤ R'.cells ∧ R.slots ≤ R'.slots ∧ R.locals ≤ R'.locals) (hP : ∀ a st, P' a st → P a st ∧ ∀ q, A q → A' q) (hQ : ∀ a st o t, P' a st → Q a st o t → st.WarmedH t.vm → Q' a st o t) : Met l y ws R' P' Q' mc ms A' := by
  intro p e hadm hf1 hf2 s m args below hfr happ hp _
  obtain ⟨hp0, hA⟩ := hP args s hp
  have happ' : (headSpec ws R).appliesLoose y e.platform s = true := by
    rw [Spec.appliesLoose_iff hfr] at happ ⊢
    obtain ⟨a1, a2, a3, a4, a5, a6, a7, a8⟩ := happ
    exact ⟨a1, a2, a3, a4, a5, a6, zx_room_le a7 hR.1 hR.2.1 hR.2.2.1 hR.2.2.2, a8⟩
  obtain ⟨n, o, h1, h2, h3, h4, L, h5, h6⟩ := hM p e hadm hf1 hf2 s m args below hfr happ' hp0 trivial
  exact ⟨n, o, h1, h2, h3, hQ _ _ _ _ hp h4 h5.2.1, L, h5, fun q hq => hA _ (h6 q hq)⟩
theorem zx_FJ_mono {l : Launch} {cl : List vw_C} {Ts nw : List Jvm.Cond} {sts : List (String × String × String × Nat)} {Y : zx_Y} {aos : List String} {PR : zx_PR} {rmt : List (Nat × Nat)} {d d' : Nat} {f : zx_Fn} {j : Nat} (h : zx_FJ l cl Ts nw sts Y aos PR rmt d f j) (hd : d ≤ d') : zx_FJ l cl Ts nw sts Y aos PR rmt d' f j :=
  fun y cc maxL ret rm h1 h2 G hp as os h3 D A b ex ρ tys ws sz av h4 h5 h6 h7 => zx_Met_imp (h y cc maxL ret rm h1 h2 G hp as os h3 D A b ex ρ tys ws sz av h4 h5 h6 h7) ⟨hd, Nat.le_refl _, Nat.le_refl _, Nat.mul_le_mul_left _ hd⟩ (fun _ _ h => ⟨h, fun _ q => q⟩) (fun _ _ _ _ _ h _ => h)
/-! what is known of the cells says all that the smaller run wants -/
def zy_mI (n o : Nat) : List Nat → List Nat → Bool
  | [], [] => true
  | i :: r, j :: t => (if i < 64 then Nat.beq i j else Nat.blt i (64 + n) && Nat.beq (i + o) j) && zy_mI n o r t
  | [], _ :: _ => false
  | _ :: _, [] => false
def zy_mV (n o : Nat) (G : zx_G) (v0 v : zx_V) : Bool := match v0, v with
  | .inl e0, .inl e => zx_isc e0 && (match zx_rng G e with
    | some t => decide (e0.2 ≤ t.1) && decide (t.2 ≤ e0.2)
    | none => false)
  | .inr (.inl r0), .inr (.inl r) => (r0.2 || !r.2) && zy_mI n o r0.1 r.1
  | .inr (.inr true), .inr (.inr true) => true
  | _, _ => false
def zy_mS (n o : Nat) (G : zx_G) (t0 t : zx_S) : Bool := match t0, t with
  | .inl v0, .inl v => zy_mV n o G v0 v
  | .inr q0, .inr q => decide (q0.1 ≤ q.1) && decide (q.2 ≤ q0.2)
  | .inr q0, .inl (.inl e) => (match zx_rng G e with
    | some t => decide (q0.1 ≤ t.1) && decide (t.2 ≤ q0.2)
    | none => false)
  | _, _ => false
def zy_mL (n o : Nat) (G : zx_G) : List zx_S → List zx_S → Bool
  | [], [] => true
  | a :: r, b :: t => zy_mS n o G a b && zy_mL n o G r t
  | [], _ :: _ => false
  | _ :: _, [] => false
def zy_mC (n o : Nat) (G : zx_G) (c0 c : zx_C) : Bool := match c0, c with
  | .inl a, .inl b => Nat.beq a.1 b.1 && zy_mL n o G a.2 b.2
  | .inr (.inl a), .inr (.inl b) => Nat.beq a.1 b.1 && (Nat.beq a.2.1 b.2.1 && ((a.2.2.1 == b.2.2.1) && zy_mL n o G a.2.2.2 b.2.2.2))
  | .inr (.inr a), .inr (.inr b) => Nat.beq a b
  | _, _ => false
def zy_mH (n o : Nat) (G : zx_G) : List zx_C → List zx_C → Bool
  | [], _ => true
  | a :: r, b :: t => zy_mC n o G a b && zy_mH n o G r t
  | _ :: _, [] => false
def zy_mA (n o : Nat) (G : zx_G) : List zx_V → List zx_V → Bool
  | [], [] => true
  | a :: r, b :: t => zy_mV n o G a b && zy_mA n o G r t
  | [], _ :: _ => false
  | _ :: _, [] => false
section ZXM
variable {cl : List vw_C} {b : Nat} {ex : List Nat} {ρ : List Int} {ad ad0 : List Nat} {G : zx_G} {n o : Nat}
theorem zy_mI_ok : ∀ {r0 r : List Nat} {j : Nat}, zy_mI n o r0 r = true → j ∈ r → ∃ i ∈ r0, (i < 64 ∧ i = j) ∨ (¬ i < 64 ∧ i < 64 + n ∧ i + o = j)
  | [], [], _, _, hj => nomatch hj
  | i :: r0, k :: r, j, h, hj => by
    rw [zy_mI, Bool.and_eq_true] at h
    rcases List.mem_cons.mp hj with e | e
    · subst e
      refine ⟨i, List.mem_cons_self, ?_⟩
      have h1 := h.1
      split at h1
      · exact Or.inl ⟨by assumption, Nat.eq_of_beq_eq_true h1⟩
      · rw [Bool.and_eq_true] at h1
        exact Or.inr ⟨by assumption, by have := h1.1; rw [Nat.blt_eq] at this; exact this, Nat.eq_of_beq_eq_true h1.2⟩
    · obtain ⟨i', g1, g2⟩ := zy_mI_ok h.2 e
      exact ⟨i', List.mem_cons_of_mem _ g1, g2⟩
  | [], _ :: _, _, h, _ => nomatch h
  | _ :: _, [], _, h, _ => nomatch h
theorem zy_mV_ok (hG : zx_ok ρ G) (had : ∀ i, i < n → ad0[i]? = ad[i + o]?) {v0 v : zx_V} {x : Value} (h : zy_mV n o G v0 v = true) (hx : zx_R b ex ρ ad v x) : zx_R b ex [] ad0 v0 x := by
  unfold zy_mV at h
  split at h
  · rename_i e0 e
    rw [Bool.and_eq_true] at h
    obtain ⟨w, rfl, hw⟩ := hx
    refine ⟨w, rfl, ?_⟩
    have h2 := h.2
    split at h2
    · rename_i t ht
      rw [Bool.and_eq_true, decide_eq_true_iff, decide_eq_true_iff] at h2
      obtain ⟨k1, k2⟩ := zx_rng_ok hG ht hw
      have h1 := h.1
      unfold zx_isc at h1
      split at h1
      · rename_i he
        refine zx_ev_iff.mpr ⟨0, by rw [he]; rfl, by omega⟩
      · cases h1
    · cases h2
  · rename_i r0 r
    rw [Bool.and_eq_true] at h
    rcases hx with ⟨h1, rfl⟩ | ⟨j, a, h1, h2, rfl⟩
    · refine Or.inl ⟨?_, rfl⟩
      have h3 := h.1
      rw [h1] at h3
      simpa using h3
    · obtain ⟨i, g1, g2⟩ := zy_mI_ok h.2 h1
      refine Or.inr ⟨i, a, g1, ?_, rfl⟩
      rw [zx_ad] at h2 ⊢
      rcases g2 with ⟨g2, rfl⟩ | ⟨g2, g3, rfl⟩
      · rw [if_pos g2] at h2 ⊢; exact h2
      · rw [if_neg (by omega)] at h2
        rw [if_neg g2, had _ (by omega)]
        rw [← h2]; congr 1; omega
  · exact hx
  · cases h
theorem zy_mS_ok (hG : zx_ok ρ G) (had : ∀ i, i < n → ad0[i]? = ad[i + o]?) {t0 t : zx_S} {x : Value} (h : zy_mS n o G t0 t = true) (hx : zx_RS b ex ρ ad t x) : zx_RS b ex [] ad0 t0 x := by
  unfold zy_mS at h
  split at h
  · exact zy_mV_ok hG had h hx
  · rw [Bool.and_eq_true, decide_eq_true_iff, decide_eq_true_iff] at h
    obtain ⟨w, h1, h2, h3⟩ := hx
    exact ⟨w, h1, by omega, by omega⟩
  · split at h
    · rename_i e t ht
      rw [Bool.and_eq_true, decide_eq_true_iff, decide_eq_true_iff] at h
      obtain ⟨w, h1, h2⟩ := hx
      obtain ⟨k1, k2⟩ := zx_rng_ok hG ht h2
      exact ⟨w, h1, by omega, by omega⟩
    · cases h
  · cases h
theorem zy_mL_F2 (hG : zx_ok ρ G) (had : ∀ i, i < n → ad0[i]? = ad[i + o]?) : ∀ {l0 l : List zx_S} {xs : List Value}, zy_mL n o G l0 l = true → zx_F2 (zx_RS b ex ρ ad) l xs → zx_F2 (zx_RS b ex [] ad0) l0 xs
  | [], [], [], _, _ => trivial
  | [], [], _ :: _, _, h => h.elim
  | a :: r, c :: t, x :: m, h, hx => by
    rw [zy_mL, Bool.and_eq_true] at h
    exact ⟨zy_mS_ok hG had h.1 hx.1, zy_mL_F2 hG had h.2 hx.2⟩
  | _ :: _, _ :: _, [], _, hx => hx.elim
  | [], _ :: _, _, h, _ => nomatch h
  | _ :: _, [], _, h, _ => nomatch h
theorem zy_mL_get : ∀ {l0 l : List zx_S}, zy_mL n o G l0 l = true → l0.length = l.length ∧ ∀ (j : Nat) (t0 : zx_S), l0[j]? = some t0 → ∃ t, l[j]? = some t ∧ zy_mS n o G t0 t = true
  | [], [], _ => ⟨rfl, fun j t0 h => by simp at h⟩
  | a :: r, c :: t, h => by
    rw [zy_mL, Bool.and_eq_true] at h
    obtain ⟨g1, g2⟩ := zy_mL_get h.2
    refine ⟨by rw [List.length_cons, List.length_cons, g1], fun j t0 hj => ?_⟩
    cases j with
    | zero => cases hj; exact ⟨c, rfl, h.1⟩
    | succ j => obtain ⟨t', k1, k2⟩ := g2 j t0 (by simpa using hj); exact ⟨t', by simpa using k1, k2⟩
  | [], _ :: _, h => nomatch h
  | _ :: _, [], h => nomatch h
theorem zy_mL_RA (hG : zx_ok ρ G) (had : ∀ i, i < n → ad0[i]? = ad[i + o]?) {k : Nat} {sm : Bool} {l0 l : List zx_S} {el : Nat → Value} (h : zy_mL n o G l0 l = true) (hx : zx_RA b ex ρ ad k sm l el) : zx_RA b ex [] ad0 k sm l0 el := by
  cases sm with
  | true =>
    obtain ⟨t, rfl, h2⟩ := hx
    cases l0 with
    | nil => cases h
    | cons a r =>
      rw [zy_mL, Bool.and_eq_true] at h
      cases r with
      | nil => exact ⟨a, rfl, fun j hj => zy_mS_ok hG had h.1 (h2 j hj)⟩
      | cons _ _ => cases h.2
  | false =>
    obtain ⟨g1, g2⟩ := zy_mL_get h
    refine ⟨by rw [g1]; exact hx.1, fun j t0 hj => ?_⟩
    obtain ⟨t, k1, k2⟩ := g2 j t0 hj
    exact zy_mS_ok hG had k2 (hx.2 j t k1)
theorem zy_mC_ok (hG : zx_ok ρ G) (had : ∀ i, i < n → ad0[i]? = ad[i + o]?) {tys : List (ClassId × FieldType)} {c0 c : zx_C} {e : va_E} (h : zy_mC n o G c0 c = true) (hx : zx_RC cl b ex ρ ad tys c e) : zx_RC cl b ex [] ad0 tys c0 e := by
  unfold zy_mC at h
  split at h
  · rename_i a c'
    rw [Bool.and_eq_true] at h
    obtain ⟨fs, h1, h2⟩ := hx
    exact ⟨fs, by rw [h1, Nat.eq_of_beq_eq_true h.1], zy_mL_F2 hG had h.2 h2⟩
  · rename_i a c'
    obtain ⟨a1, a2, a3, a4⟩ := a
    obtain ⟨c1, c2, c3, c4⟩ := c'
    simp only [Bool.and_eq_true, beq_iff_eq] at h
    obtain ⟨h1, h2, h3, h4⟩ := h
    cases Nat.eq_of_beq_eq_true h1
    cases Nat.eq_of_beq_eq_true h2
    cases h3
    obtain ⟨cA, t0, g1, g2⟩ := hx
    refine ⟨cA, t0, g1, ?_⟩
    rcases g2 with ⟨g2, f, g3, g4⟩ | ⟨g2, f, g3, g4⟩
    · exact Or.inl ⟨g2, f, g3, zy_mL_RA hG had h4 g4⟩
    · exact Or.inr ⟨g2, f, g3, zy_mL_RA hG had h4 g4⟩
  · cases Nat.eq_of_beq_eq_true h
    exact hx
  · cases h
theorem zy_mH_ok (hG : zx_ok ρ G) (had : ∀ i, i < n → ad0[i]? = ad[i + o]?) {tys : List (ClassId × FieldType)} : ∀ {h0 h : List zx_C} {ws : va_W}, zy_mH n o G h0 h = true → zx_F2 (fun c q => zx_RC cl b ex ρ ad tys c q.2) h ws → zx_F2 (fun c q => zx_RC cl b ex [] ad0 tys c q.2) h0 (ws.take h0.length)
  | [], _, _, _, _ => by rw [List.length_nil, List.take_zero]; trivial
  | a :: r, c :: t, q :: m, h, hx => by
    rw [zy_mH, Bool.and_eq_true] at h
    exact ⟨zy_mC_ok hG had h.1 hx.1, zy_mH_ok hG had h.2 hx.2⟩
  | _ :: _, _ :: _, [], _, hx => hx.elim
  | _ :: _, [], _, h, _ => nomatch h
theorem zy_mA_ok (hG : zx_ok ρ G) (had : ∀ i, i < n → ad0[i]? = ad[i + o]?) : ∀ {l0 l : List zx_V} {xs : List Value}, zy_mA n o G l0 l = true → zx_F2 (zx_R b ex ρ ad) l xs → zx_F2 (zx_R b ex [] ad0) l0 xs
  | [], [], [], _, _ => trivial
  | [], [], _ :: _, _, h => h.elim
  | a :: r, c :: t, x :: m, h, hx => by
    rw [zy_mA, Bool.and_eq_true] at h
    exact ⟨zy_mV_ok hG had h.1 hx.1, zy_mA_ok hG had h.2 hx.2⟩
  | _ :: _, _ :: _, [], _, hx => hx.elim
  | [], _ :: _, _, h, _ => nomatch h
  | _ :: _, [], _, h, _ => nomatch h
end ZXM
/-! back to where the cells stand -/
def zx_bI (o : Nat) : List Nat → List Nat
  | [] => []
  | i :: r => (if i < 64 then i else i + o) :: zx_bI o r
def zx_bV (o : Nat) (v : zx_V) : zx_V := match v with
  | .inr (.inl r) => .inr (.inl (zx_bI o r.1, r.2))
  | .inl e => .inl e
  | .inr (.inr k) => .inr (.inr k)
def zx_bS (o : Nat) (t : zx_S) : zx_S := match t with
  | .inl v => .inl (zx_bV o v)
  | .inr q => .inr q
def zx_bC (o : Nat) (c : zx_C) : zx_C := match c with
  | .inl a => .inl (a.1, a.2.map (zx_bS o))
  | .inr (.inl a) => .inr (.inl (a.1, a.2.1, a.2.2.1, a.2.2.2.map (zx_bS o)))
  | .inr (.inr k) => .inr (.inr k)
section ZXN
variable {cl : List vw_C} {b : Nat} {ex : List Nat} {ρ : List Int} {ad ad0 : List Nat} {o : Nat}
theorem zx_bI_mem {i : Nat} : ∀ {r : List Nat}, i ∈ r → (if i < 64 then i else i + o) ∈ zx_bI o r
  | [], h => nomatch h
  | k :: r, h => by
    rw [zx_bI]
    rcases List.mem_cons.mp h with e | e
    · subst e; exact List.mem_cons_self
    · exact List.mem_cons_of_mem _ (zx_bI_mem e)
theorem zx_bV_ok (had : ∀ (i : Nat) (a : Nat), ad0[i]? = some a → ad[i + o]? = some a) {v : zx_V} {x : Value} (hx : zx_R b ex [] ad0 v x) : zx_R b ex ρ ad (zx_bV o v) x := by
  rcases v with e | r | k
  · obtain ⟨w, h1, h2⟩ := hx
    exact ⟨w, h1, by have := zx_ev_app (r := ρ) h2; rwa [List.nil_append] at this⟩
  · rcases hx with h | ⟨i, a, h1, h2, h3⟩
    · exact Or.inl h
    · refine Or.inr ⟨_, a, zx_bI_mem (o := o) h1, ?_, h3⟩
      rw [zx_ad] at h2 ⊢
      by_cases hi : i < 64
      · rw [if_pos hi] at h2
        simp only [if_pos hi]
        exact h2
      · rw [if_neg hi] at h2
        simp only [if_neg hi]
        rw [if_neg (by omega)]
        have := had _ _ h2
        rw [← this]; congr 1; omega
  · cases k
    · exact hx
    · exact hx
theorem zx_bS_ok (had : ∀ (i : Nat) (a : Nat), ad0[i]? = some a → ad[i + o]? = some a) {t : zx_S} {x : Value} (hx : zx_RS b ex [] ad0 t x) : zx_RS b ex ρ ad (zx_bS o t) x := by
  rcases t with v | q
  · exact zx_bV_ok (v := v) had hx
  · exact hx
theorem zx_F2_map {α α' β : Type} {R : α → β → Prop} {S : α' → β → Prop} {f : α → α'} (hf : ∀ a b, R a b → S (f a) b) : ∀ {l : List α} {m : List β}, zx_F2 R l m → zx_F2 S (l.map f) m
  | [], [], _ => trivial
  | _ :: _, _ :: _, h => ⟨hf _ _ h.1, zx_F2_map hf h.2⟩
  | [], _ :: _, h => h.elim
  | _ :: _, [], h => h.elim
theorem zx_bRA_ok (had : ∀ (i : Nat) (a : Nat), ad0[i]? = some a → ad[i + o]? = some a) {k : Nat} {sm : Bool} {l : List zx_S} {el : Nat → Value} (hx : zx_RA b ex [] ad0 k sm l el) : zx_RA b ex ρ ad k sm (l.map (zx_bS o)) el := by
  cases sm with
  | true =>
    obtain ⟨t, rfl, h2⟩ := hx
    exact ⟨_, rfl, fun j hj => zx_bS_ok had (h2 j hj)⟩
  | false =>
    refine ⟨by rw [List.length_map]; exact hx.1, fun j t hj => ?_⟩
    rw [List.getElem?_map] at hj
    obtain ⟨t', h1, rfl⟩ := Option.map_eq_some_iff.mp hj
    exact zx_bS_ok had (hx.2 j t' h1)
theorem zx_bC_ok (had : ∀ (i : Nat) (a : Nat), ad0[i]? = some a → ad[i + o]? = some a) {tys tys' : List (ClassId × FieldType)} (ht : ∀ (i : Nat) (q : ClassId × FieldType), tys[i]? = some q → ∃ k : Nat, tys'[k]? = some q) {c : zx_C} {e : va_E} (hx : zx_RC cl b ex [] ad0 tys c e) : zx_RC cl b ex ρ ad tys' (zx_bC o c) e := by
  rcases c with a | q | k
  · obtain ⟨fs, h1, h2⟩ := hx
    exact ⟨fs, h1, zx_F2_map (R := zx_RS b ex [] ad0) (S := zx_RS b ex ρ ad) (f := zx_bS o) (fun _ _ hq => zx_bS_ok had hq) h2⟩
  · obtain ⟨cA, t0, h1, h2⟩ := hx
    obtain ⟨t1, h1⟩ := ht _ _ h1
    refine ⟨cA, t1, h1, ?_⟩
    rcases h2 with ⟨h2, f, h3, h4⟩ | ⟨h2, f, h3, h4⟩
    · exact Or.inl ⟨h2, f, h3, zx_bRA_ok had h4⟩
    · exact Or.inr ⟨h2, f, h3, zx_bRA_ok had h4⟩
  · obtain ⟨cA, t0, f, h1, h2⟩ := hx
    obtain ⟨t1, h1⟩ := ht _ _ h1
    exact ⟨cA, t1, f, h1, h2⟩
end ZXN
/-- the cells apart, by their addresses alone -/
theorem zx_D_as {A : Nat → Prop} {ws ws' : va_W} (h : va_D A ws) (he : zx_as ws' = zx_as ws) : va_D A ws' := by
  have key : ∀ (i : Nat) (p : Nat × va_E), ws'[i]? = some p → ∃ p', ws[i]? = some p' ∧ p'.1 = p.1 := by
    intro i p hp
    have h1 : (zx_as ws')[i]? = some p.1 := by rw [zx_as, List.getElem?_map, hp]; rfl
    rw [he, zx_as, List.getElem?_map] at h1
    obtain ⟨p', h2, h3⟩ := Option.map_eq_some_iff.mp h1
    exact ⟨p', h2, h3⟩
  refine ⟨fun i j p q hp hq hpq => ?_, fun k q hq => ?_⟩
  · obtain ⟨p', h1, h2⟩ := key i p hp
    obtain ⟨q', h3, h4⟩ := key j q hq
    exact h.1 i j p' q' h1 h3 (by rw [h2, h4, hpq])
  · obtain ⟨q', h1, h2⟩ := key k q hq
    rw [← h2]; exact h.2 k q' h1
theorem zx_CX_narrow {ex : List Nat} {A B : Nat → Prop} {U : State} {H : Heap} {sts : List (String × String × String × Nat)} {Y : zx_Y} (h : zx_CX ex A U H sts Y) (hAB : ∀ q, B q → A q) : zx_CX ex B U H sts Y :=
  ⟨fun q hq => by obtain ⟨a, h1, h2⟩ := h.1 q hq; exact ⟨a, h1, h2.narrow hAB⟩, fun q hq => by obtain ⟨a, h0, h1, h2, h3⟩ := h.2 q hq; exact ⟨a, h0, h1, h2, h3.narrow hAB⟩⟩
/-- an entry: which method, its cells, its arguments; the cells behind it, the answer -/
abbrev zx_En : Type := Nat × (List zx_C × (List zx_V × (List zx_C × Option zx_V)))
section ZXP
variable {l : Launch} {cl : List vw_C} {Ts nw : List Jvm.Cond} {sts : List (String × String × String × Nat)} {Y : zx_Y} {aos : List String} {PR : zx_PR} {rmt : List (Nat × Nat)}
theorem zx_loc_ok {d j : Nat} {f : zx_Fn} {h0 h1 : List zx_C} {as0 : List zx_V} {r : Option zx_V} (hf : zx_FJ l cl Ts nw sts Y aos PR rmt d f j) (hrun : f j [] h0 as0 = some [([], h1, r)]) (hlen : h1.length = h0.length) {o : Nat} {G : zx_G} {h : List zx_C} {as : List zx_V} (hH : zy_mH h0.length o G h0 (h.drop o) = true) (hAs : zy_mA h0.length o G as0 as = true)
    {y : MethodName} {cc : ByteArray} {maxL : Nat} {ret : Option FieldType} {rm : Nat × Nat} (hPR : PR[j]? = some (y, cc, maxL, ret)) (hrm : rmt[j]? = some rm) {D : va_G} {A : Nat → Prop} {b : Nat} {ex : List Nat} {ρ : List Int} {tys : List (ClassId × FieldType)} {ws : va_W} {sz : Nat} {av : List Value} (hG : zx_ok ρ G) (hh : zx_F2 (fun c q => zx_RC cl b ex ρ (zx_as ws) tys c q.2) h ws) (ha : zx_F2 (zx_R b ex ρ (zx_as ws)) as av) (hsz : ∀ q, sz ≤ q → A q) :
    Met l y (Jvm.Cond.code y cc maxL ret :: Ts) ({ frames := d, cells := rm.1, slots := rm.2, locals := 100 * d }) (zx_Pc D cl A ex sts Y nw aos tys ws sz av) (zx_Qc D cl A b ex ρ ws [(G, h.take o ++ (h1.map (zx_bC o) ++ h.drop (o + h0.length)), r.map (zx_bV o))]) rm.1 rm.2 A := by
  have hG0 : zx_ok [] [] := ⟨rfl, fun i v b h => by simp at h⟩
  have had : ∀ i, i < h0.length → (zx_as ((ws.drop o).take h0.length))[i]? = (zx_as ws)[i + o]? := by
    intro i hi
    rw [zx_as, zx_as, List.getElem?_map, List.getElem?_map, List.getElem?_take, if_pos hi, List.getElem?_drop, Nat.add_comm]
  have hdr := (zx_F2_take o hh).2
  have hh0 := zy_mH_ok hG had hH hdr
  have ha0 := zy_mA_ok hG had hAs ha
  have hl0 : ((ws.drop o).take h0.length).length = h0.length := (zx_F2_len hh0).symm
  have hcut : ws = ws.take o ++ ((ws.drop o).take h0.length ++ ws.drop (o + h0.length)) := by
    rw [← List.drop_drop, List.take_append_drop, List.take_append_drop]
  have key0 : ∀ (k : Nat) (q : Nat × va_E), ((ws.drop o).take h0.length)[k]? = some q → ws[k + o]? = some q ∧ k < h0.length := by
    intro k q hk
    have hk' := (List.getElem?_eq_some_iff.mp hk).1
    rw [hl0] at hk'
    rw [List.getElem?_take, if_pos hk', List.getElem?_drop, Nat.add_comm] at hk
    exact ⟨hk, hk'⟩
  have M0 := hf y cc maxL ret rm hPR hrm [] h0 as0 _ hrun D (va_A ((ws.drop o).take h0.length) sz) b ex [] tys ((ws.drop o).take h0.length) sz av hG0 hh0 ha0 (fun q hq => Or.inr hq)
  generalize (ws.drop o).take h0.length = ws0 at had hh0 ha0 hl0 hcut key0 M0
  have hAA : va_D A ws → ∀ q, va_A ws0 sz q → A q := by
    rintro p5 q (⟨k, e, hk⟩ | hq)
    · exact p5.2 _ _ (key0 k _ hk).1
    · exact hsz q hq
  refine zx_Met_imp M0 ⟨Nat.le_refl _, Nat.le_refl _, Nat.le_refl _, Nat.le_refl _⟩ ?_ ?_
  · intro a st hp
    obtain ⟨p1, p2, p3, p4, p5, p6, p7, p8⟩ := hp
    refine ⟨⟨p1, p2, fun k q hk => p3 _ q (key0 k q hk).1, p4, ⟨fun i j p q hi hj hpq => ?_, fun k q hk => Or.inl ⟨k, q.2, hk⟩⟩, zx_CX_narrow p6 (hAA p5), p7, p8⟩, hAA p5⟩
    have := p5.1 _ _ p q (key0 i p hi).1 (key0 j q hj).1 hpq
    omega
  · intro a st oc t hp hq hW
    obtain ⟨p1, p2, p3, p4, p5, p6, p7, p8⟩ := hp
    obtain ⟨⟨o1, ho1, v, r2, tys', ws1, hv, g1, g2, g3, g4, ⟨xt, g5⟩, g6, g7⟩, gF⟩ := hq
    cases List.mem_singleton.mp ho1
    have hr2 : r2 = [] := by
      have := g1.1
      rw [List.nil_append] at this
      exact List.eq_nil_of_length_eq_zero this
    subst hr2
    have hw1 : ws1.length = ws0.length := by rw [← zx_F2_len g6, hlen, hl0]
    have hxt : xt = [] := by
      have := congrArg List.length g5
      rw [List.length_append, zx_as, zx_as, List.length_map, List.length_map] at this
      exact List.eq_nil_of_length_eq_zero (by omega)
    subst hxt
    rw [List.append_nil] at g5
    have has : zx_as (ws.take o ++ (ws1 ++ ws.drop (o + h0.length))) = zx_as ws := by
      have h2 := congrArg zx_as hcut
      rw [h2]
      simp only [zx_as, List.map_append]
      rw [show List.map Prod.fst ws1 = List.map Prod.fst ws0 from g5]
    have had1 : ∀ (i a : Nat), (zx_as ws1)[i]? = some a → (zx_as ws)[i + o]? = some a := by
      intro i a hi
      have h2 := (List.getElem?_eq_some_iff.mp hi).1
      rw [zx_as, List.length_map, hw1, hl0] at h2
      rw [← had i h2, ← g5]; exact hi
    have hup : ∀ (c : zx_C) (q : Nat × va_E), zx_RC cl b ex ρ (zx_as ws) tys c q.2 → zx_RC cl b ex (ρ ++ []) (zx_as ws) (tys ++ tys') c q.2 := fun c q hc => by
      have := zx_RC_app (r := []) (q := []) (ty := tys') hc
      rwa [List.append_nil (zx_as ws)] at this
    have htys : ∀ (i : Nat) (q : ClassId × FieldType), tys'[i]? = some q → ∃ k : Nat, (tys ++ tys')[k]? = some q := fun i q hi => ⟨tys.length + i, by rw [List.getElem?_append_right (by omega)]; rw [← hi]; congr 1; omega⟩
    refine ⟨⟨_, List.mem_singleton.mpr rfl, v, [], tys ++ tys', ws.take o ++ (ws1 ++ ws.drop (o + h0.length)), hv, by rw [List.append_nil]; exact hG, va_K.app (va_K.moved hW.alike p4) g2, ?_, zx_D_as p5 has, ⟨[], by rw [has, List.append_nil]⟩, ?_, ?_⟩, gF.1, fun q k1 k2 => gF.2 q k1 (fun k3 => k2 (hAA p5 q k3))⟩
    · have kept : ∀ (i : Nat) (q : Nat × va_E), ws[i]? = some q → (i < o ∨ o + h0.length ≤ i) → va_at D cl q t.heap := by
        intro i q hi hio
        have hlt := (p3 i q hi).lt
        refine (p3 i q hi).kept (gF.2 q.1 hlt ?_)
        rintro (⟨k, e, hk⟩ | hq)
        · have hk' := key0 k _ hk
          have := p5.1 i (k + o) q _ hi hk'.1 rfl
          omega
        · omega
      intro k q hk
      rcases List.mem_append.mp (List.mem_of_getElem? hk) with hm | hm
      · obtain ⟨i, hi⟩ := List.mem_iff_getElem?.mp hm
        rw [List.getElem?_take] at hi
        split at hi
        · exact kept i q hi (Or.inl (by assumption))
        · cases hi
      · rcases List.mem_append.mp hm with hm | hm
        · obtain ⟨i, hi⟩ := List.mem_iff_getElem?.mp hm
          exact g3 i q hi
        · obtain ⟨i, hi⟩ := List.mem_iff_getElem?.mp hm
          rw [List.getElem?_drop] at hi
          exact kept _ q hi (Or.inr (by omega))
    · rw [has]
      refine zx_F2_app (zx_F2_app (zx_F2_imp hup (zx_F2_take (o + h0.length) hh).2) ?_) (zx_F2_imp hup (zx_F2_take o hh).1)
      rw [List.append_nil]
      exact zx_F2_map (R := fun (c : zx_C) (q : Nat × va_E) => zx_RC cl b ex ([] ++ []) (zx_as ws1) tys' c q.2) (S := fun (c : zx_C) (q : Nat × va_E) => zx_RC cl b ex ρ (zx_as ws) (tys ++ tys') c q.2) (fun c q hc => zx_bC_ok had1 htys hc) g6
    · rw [has, List.append_nil]
      cases r with
      | none =>
        cases v with
        | none => exact trivial
        | some _ => exact g7.elim
      | some x =>
        cases v with
        | none => exact g7.elim
        | some xv => exact zx_bV_ok (v := x) had1 g7
def zx_mmE (j : Nat) (G : zx_G) (h : List zx_C) (as : List zx_V) (o : Nat) : List zx_En → Option (List zx_Ou)
  | [] => none
  | en :: t => if (Nat.beq en.1 j && (zy_mA en.2.1.length o G en.2.2.1 as && zy_mH en.2.1.length o G en.2.1 (h.drop o))) = true then some [(G, h.take o ++ (en.2.2.2.1.map (zx_bC o) ++ h.drop (o + en.2.1.length)), en.2.2.2.2.map (zx_bV o))] else zx_mmE j G h as o t
def zx_mm (E : List zx_En) : zx_Fn := fun j G h as => match as with
  | .inr (.inl ([id], false)) :: _ => if id < 64 then none else zx_mmE j G h as (id - 64) E
  | _ => none
def zx_EOK (l : Launch) (cl : List vw_C) (Ts nw : List Jvm.Cond) (sts : List (String × String × String × Nat)) (Y : zx_Y) (aos : List String) (PR : zx_PR) (rmt : List (Nat × Nat)) (d0 : Nat) (E : List zx_En) : Prop :=
  ∀ en ∈ E, ∃ (d : Nat) (f : zx_Fn), d ≤ d0 ∧ zx_FJ l cl Ts nw sts Y aos PR rmt d f en.1 ∧ f en.1 [] en.2.1 en.2.2.1 = some [([], en.2.2.2.1, en.2.2.2.2)] ∧ en.2.2.2.1.length = en.2.1.length
theorem zx_mm_ok {d0 : Nat} {E : List zx_En} (hE : zx_EOK l cl Ts nw sts Y aos PR rmt d0 E) {d : Nat} (hd : d0 ≤ d) (j : Nat) : zx_FJ l cl Ts nw sts Y aos PR rmt d (zx_mm E) j := by
  intro y cc maxL ret rm hPR hrm G h as os hz D A b ex ρ tys ws sz av hG hh ha hA
  have main : ∀ (o : Nat) (E' : List zx_En), (∀ en ∈ E', en ∈ E) → zx_mmE j G h as o E' = some os → Met l y (Jvm.Cond.code y cc maxL ret :: Ts) ({ frames := d, cells := rm.1, slots := rm.2, locals := 100 * d }) (zx_Pc D cl A ex sts Y nw aos tys ws sz av) (zx_Qc D cl A b ex ρ ws os) rm.1 rm.2 A := by
    intro o E'
    induction E' with
    | nil => intro _ hzz; cases hzz
    | cons en t ih =>
      intro hs hzz
      rw [zx_mmE] at hzz
      split at hzz
      · rename_i hc
        rw [Bool.and_eq_true, Bool.and_eq_true] at hc
        obtain ⟨c1, c3, c2⟩ := hc
        obtain ⟨d1, f, h1, h2, h3, h4⟩ := hE en (hs _ List.mem_cons_self)
        have hj := Nat.eq_of_beq_eq_true c1
        rw [hj] at h2 h3
        cases hzz
        exact zx_loc_ok (zx_FJ_mono h2 (Nat.le_trans h1 hd)) h3 h4 c2 c3 hPR hrm hG hh ha hA
      · exact ih (fun x hx => hs x (List.mem_cons_of_mem _ hx)) hzz
  unfold zx_mm at hz
  split at hz
  · split at hz
    · cases hz
    · exact main _ E (fun _ h => h) hz
  · cases hz
/-- what is kept comes first -/
def zx_rm (Y : zx_Y) (dt : List (List Nat)) (rmt : List (Nat × Nat)) (P : List (Option zx_MD)) (xf : zx_Fn) (fuel d : Nat) : zx_Fn :=
  Nat.rec (motive := fun _ => zx_Fn) (fun _ _ _ _ => none) (fun _ ih j G h as => match xf j G h as with
    | some os => some os
    | none => zx_run1 Y dt rmt P (fun _ _ _ _ => none) (fun md => zx_ex Y dt rmt (fun _ => false) md ih fuel) j G h as) d
theorem zx_rm_s {dt : List (List Nat)} {P : List (Option zx_MD)} {xf : zx_Fn} {fuel d j : Nat} {G : zx_G} {h : List zx_C} {as : List zx_V} : zx_rm Y dt rmt P xf fuel (d + 1) j G h as = (match xf j G h as with
    | some os => some os
    | none => zx_run1 Y dt rmt P (fun _ _ _ _ => none) (fun md => zx_ex Y dt rmt (fun _ => false) md (zx_rm Y dt rmt P xf fuel d) fuel) j G h as) := rfl
theorem zx_run1_ok {dt : List (List Nat)} {P : List (Option zx_MD)} {fuel d : Nat} {f : zx_Fn} (hPK : zx_PK cl Ts nw sts aos PR rmt P) (hCK : zx_CK cl Ts dt) (harr : ∀ ty ∈ [FieldType.int, FieldType.byte, FieldType.boolean, FieldType.long], Jvm.Cond.arrayClass ty ∈ Ts) (hgw : Ts.all goodWord = true) (hnk : nw.all zx_nk = true) (ih : zx_FOK l cl Ts nw sts Y aos PR rmt d f) (j : Nat) : zx_FJ l cl Ts nw sts Y aos PR rmt (d + 1) (zx_run1 Y dt rmt P (fun _ _ _ _ => none) (fun md => zx_ex Y dt rmt (fun _ => false) md f fuel)) j := by
    intro y cc maxL ret rm hPR hrm G h as os hz D A b ex ρ tys ws sz av hG hh ha hA
    unfold zx_run1 at hz
    simp only [zy_get_eq] at hz
    split at hz
    · rename_i md hP
      split at hz
      · rename_i hcats
        split at hz
        case h_2 => cases hz
        rename_i lo hlo
        obtain ⟨k1, k2, k3, k4, k5, k6, k7, k8, k9, x, nx, k10, k11⟩ := hPK j md y cc maxL ret rm hP hPR hrm
        refine Met.ofW (cc := cc) (maxL := maxL) (ret := ret) k1 rfl ?_
        intro p e s m args below meth c s₁ B hml hv
        obtain ⟨rfl, hsz, hP, hK, hD, hCX, hnw, hao⟩ := hv
        have hx := B.exec
        have hb := B.bytes
        have hr := B.returns
        have hts0 := atoms_spec (ws := Jvm.Cond.code y cc maxL ret :: Ts) B.pre
        have hts : ∀ w ∈ Ts, w.before av.toArray s = true := fun w hw => hts0 w (List.mem_cons_of_mem _ hw)
        have hown : s.vm.findClass y.cls = some m.cls := findClass_of_methodNamed B.named
        have hlocks := B.notSynchronized
        have hin : meth.name = y.name := (name_of_methodNamed B.named B.method).1
        have hA' : ∀ q, s.heap.size ≤ q → A q := fun q hq => hA q (by rw [← hsz]; exact hq)
        have F : zx_FX p s m av.toArray meth c ({ frames := d + 1, cells := rm.1, slots := rm.2, locals := 100 * (d + 1) } : Room) cc y.cls Ts nw cl A ex maxL sts Y aos dt md.2.1 :=
          ⟨hx, hb, hown, hts, hnw, hA', ⟨by rw [k2], by rw [k2]⟩, fun q => by rw [hin]; exact k5 q, k3, hCX, hao, hCK, k6⟩
        have hl := lv_entry av (n := maxL) (by rw [zx_words ha, ← k3]; exact hcats)
        rw [lg_entry_eq]
        generalize (lg_sl av ++ List.replicate (maxL - (lg_sl av).length) Slot.unset).toArray = ls at hl ⊢
        have J : zx_J D cl A b ex (zx_as ws) maxL s ρ G h (zx_args 0 as) [] s.heap [] ls [] :=
          ⟨hG, tys, ws, lv_args 0 av, hK, hP, hD, ⟨va_S.rf, [], by rw [List.append_nil]⟩, hh, zx_args_ok 0 ha, hl, trivial⟩
        rw [k10] at hlo
        have gol : W p l e ({ frames := d + 1, cells := rm.1, slots := rm.2, locals := 100 * (d + 1) } : Room) s m av.toArray below meth c s.heap [] 0 0 (MQ below (zx_Qc D cl A b ex ρ ws os) av.toArray s rm.1 rm.2 A) (F0 m x.1 ls []) → W p l e (headSpec (Jvm.Cond.code y cc maxL ret :: Ts) ({ frames := d + 1, cells := rm.1, slots := rm.2, locals := 100 * (d + 1) } : Room)).room s m av.toArray below meth c s.heap [] 0 0 (MQ below (zx_Qc D cl A b ex ρ ws os) av.toArray s rm.1 rm.2 A) (F0 m 0 ls []) := by
          intro g; rw [k11] at g; exact g
        refine gol ?_
        refine zx_ex_ok (xs := fun _ => 0) F harr ih k7 hgw hnk ⟨Nat.le_refl _, Nat.le_refl _⟩ hml k8 fuel x nx ρ G h (zx_args 0 as) (0, 0) [] lo s.heap [] ls [] (fun q => by rw [k4] at q; cases q) (fun y hy => by rw [k10]; exact hy) J hlo ⟨?_, fun q hq => by obtain ⟨o, h1, h2⟩ := zx_inls_mem hz _ hq; cases h2⟩
        intro o ho0 r2 H' locs' ls' kc' pc' k' ir tys' ws' g1 g2 g3 g4 g5 g6 g7 g8 g9 g10 g11
        rw [k2] at g8 g9
        have ho : o ∈ os := by obtain ⟨o', h1, h2⟩ := zx_inls_mem hz _ ho0; cases h2; exact h1
        refine W.widen (k := rm.1) (n := rm.2) g8 g9 ?_
        have fin : ∀ (v : Option Value), zx_rv b ex (ρ ++ r2) (zx_as ws') o.2.2 v → ∀ t : State, t.heap = H' → s.WarmedH t.vm → zx_Qc D cl A b ex ρ ws os av.toArray s (.returned v) t := by
          intro v hv t ht hW
          exact ⟨⟨o, ho, v, r2, tys', ws', rfl, g1, va_K.moved hW.alike g2, by rw [ht]; exact g3, g4, g6, g7, hv⟩, g5.F ht⟩
        rcases g11 with ⟨rfl, e1, rfl, e2⟩ | ⟨rfl, e1, w, e2, rfl, e3, e4⟩ | ⟨rfl, q, x1, e2, rfl, e3, e4⟩ | ⟨rfl, w, e2, rfl, e4⟩
        · have hrn : ret = none := by
            cases ret with
            | none => rfl
            | some ty => exact absurd e2 k9.2.1
          subst hrn
          exact W.vret hx hb hr (fin none (by rw [e1]; exact trivial)) g5.2.2 g10
        · cases ret with
          | none =>
            have k9 : md.2.2.2 = 4 := k9
            rw [k9] at e4
            exact (zx_fit4 e4).elim
          | some ty =>
            have hx1 : zx_R b ex (ρ ++ r2) (zx_as ws') (.inl e1) (.int w) := ⟨w, rfl, e3⟩
            have hn := (zx_fit_ok (ty := ty) g1 (by rw [k9.1]; exact e4) hx1).1
            exact W.zret hx hb hr hn (fin (some (.int w)) (by rw [e2]; exact hx1)) g5.2.2 g10
        · cases ret with
          | none =>
            have k9 : md.2.2.2 = 4 := k9
            rw [k9] at e4; cases e4
          | some ty =>
            have hty : (∃ n, ty = .object n) ∨ ∃ t, ty = .array t := by
              have h9 := k9.1
              rw [e4] at h9
              cases ty <;> first | exact Or.inl ⟨_, rfl⟩ | exact Or.inr ⟨_, rfl⟩ | cases h9
            have hvx : x1 = .null ∨ ∃ a, x1 = .ref a := by
              rcases e3 with ⟨-, h1⟩ | ⟨i, a, -, -, h1⟩
              · exact Or.inl h1
              · exact Or.inr ⟨a, h1⟩
            exact W.aret hx hb hr hty hvx (fin (some x1) (by rw [e2]; exact e3)) g5.2.2 g10
        · cases ret with
          | none =>
            have k9 : md.2.2.2 = 4 := k9
            rw [k9] at e4; cases e4
          | some ty =>
            have hty : ty = .long := by
              have h9 := k9.1
              rw [e4] at h9
              cases ty <;> first | rfl | cases h9
            subst hty
            exact W.lret hx hb hr (fin (some (.long w)) (by rw [e2]; exact ⟨w, rfl⟩)) g5.2.2 g10
      · cases hz
    · cases hz
    · cases hz
theorem zx_rm_ok {dt : List (List Nat)} {P : List (Option zx_MD)} {fuel d0 : Nat} {xf : zx_Fn} (hPK : zx_PK cl Ts nw sts aos PR rmt P) (hCK : zx_CK cl Ts dt) (harr : ∀ ty ∈ [FieldType.int, FieldType.byte, FieldType.boolean, FieldType.long], Jvm.Cond.arrayClass ty ∈ Ts) (hgw : Ts.all goodWord = true) (hnk : nw.all zx_nk = true) (hxf : ∀ d j : Nat, d0 ≤ d → zx_FJ l cl Ts nw sts Y aos PR rmt d xf j) : ∀ d : Nat, zx_FOK l cl Ts nw sts Y aos PR rmt (d0 + d) (zx_rm Y dt rmt P xf fuel d) := by
  intro d
  induction d with
  | zero =>
    intro j y cc maxL ret rm _ _ G h as os hz
    cases hz
  | succ d ih =>
    intro j y cc maxL ret rm hPR hrm G h as os hz
    rw [zx_rm_s] at hz
    split at hz
    · rename_i os' hos
      cases hz
      exact hxf (d0 + (d + 1)) j (by omega) y cc maxL ret rm hPR hrm G h as _ hos
    · exact zx_run1_ok (d := d0 + d) hPK hCK harr hgw hnk ih j y cc maxL ret rm hPR hrm G h as os hz
end ZXP
end
