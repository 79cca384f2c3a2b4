noncomputable section
/-! zx: a run on some cells serves wherever such cells stand -/
theorem zx_room_le {s : State} {pl : Platform} {r r' : Room} (h : s.hasRoom pl r = true) (h1 : r'.frames ≤ r.frames) (h2 : r'.cells ≤ r.cells) (h3 : r'.slots ≤ r.slots) (h4 : r'.locals ≤ r.locals) : s.hasRoom pl r' = true := by
  unfold State.hasRoom at h ⊢
  simp only [Bool.and_eq_true, decide_eq_true_iff] at h ⊢
  obtain ⟨⟨⟨⟨a, b1, b2, b3, b4, b5⟩, c⟩, d⟩, e⟩ := h
  exact ⟨⟨⟨⟨by omega, by omega, by omega, by omega, by omega, b5⟩, by omega⟩, by omega⟩, e⟩
theorem zx_Met_imp {l : Launch} {y : MethodName} {ws : List Jvm.Cond} {R R' : Room} {P P' : Array Value → State → Prop} {Q Q' : Array Value → State → Outcome → State → Prop} {mc ms : Nat} {A A' : Nat → Prop} (hM : Met l y ws R P Q mc ms A) (hR : R.frames ≤ R'.frames ∧ R.cells ≤ R'.cells ∧ R.slots ≤ R'.slots ∧ R.locals ≤ R'.locals) (hP : ∀ a st, P' a st → P a st ∧ ∀ q, A q → A' q) (hQ : ∀ a st o t, P' a st → Q a st o t → st.WarmedH t.vm → Q' a st o t) : Met l y ws R' P' Q' mc ms A' := by
  intro p e hadm hf1 hf2 s m args below hfr happ hp _
  obtain ⟨hp0, hA⟩ := hP args s hp
  have happ' : (headSpec ws R).appliesLoose y e.platform s = true := by
    rw [Spec.appliesLoose_iff hfr] at happ ⊢
    obtain ⟨a1, a2, a3, a4, a5, a6, a7, a8⟩ := happ
    exact ⟨a1, a2, a3, a4, a5, a6, zx_room_le a7 hR.1 hR.2.1 hR.2.2.1 hR.2.2.2, a8⟩
  obtain ⟨n, o, h1, h2, h3, h4, L, h5, h6⟩ := hM p e hadm hf1 hf2 s m args below hfr happ' hp0 trivial
  exact ⟨n, o, h1, h2, h3, hQ _ _ _ _ hp h4 h5.2.1, L, h5, fun q hq => hA _ (h6 q hq)⟩
theorem zx_FJ_mono {l : Launch} {cl : List vw_C} {Ts nw : List Jvm.Cond} {sts : List (String × String × String × Nat)} {Y : zx_Y} {aos : List String} {PR : zx_PR} {rmt : List (Nat × Nat)} {d d' : Nat} {f : zx_Fn} {j : Nat} (h : zx_FJ l cl Ts nw sts Y aos PR rmt d f j) (hd : d ≤ d') : zx_FJ l cl Ts nw sts Y aos PR rmt d' f j :=
  fun y cc maxL ret rm h1 h2 G hp as os h3 D A b ex ρ tys ws sz av h4 h5 h6 h7 h8 => zx_Met_imp (h y cc maxL ret rm h1 h2 G hp as os h3 D A b ex ρ tys ws sz av h4 h5 h6 h7 h8) ⟨hd, Nat.le_refl _, Nat.le_refl _, Nat.mul_le_mul_left _ hd⟩ (fun _ _ h => ⟨h, fun _ q => q⟩) (fun _ _ _ _ _ h _ => h)
theorem zx_D_as {A : Nat → Prop} {ws ws' : va_W} (h : va_D A ws) (he : zx_as ws' = zx_as ws) : va_D A ws' := by
  have key : ∀ (i : Nat) (p : Nat × va_E), ws'[i]? = some p → ∃ p', ws[i]? = some p' ∧ p'.1 = p.1 := by
    intro i p hp
    have h1 : (zx_as ws')[i]? = some p.1 := by rw [zx_as, List.getElem?_map, hp]; rfl
    rw [he, zx_as, List.getElem?_map] at h1
    obtain ⟨p', h2, h3⟩ := Option.map_eq_some_iff.mp h1
    exact ⟨p', h2, h3⟩
  refine ⟨fun i j p q hp hq hpq => ?_, fun k q hq => ?_⟩
  · obtain ⟨p', h1, h2⟩ := key i p hp
    obtain ⟨q', h3, h4⟩ := key j q hq
    exact h.1 i j p' q' h1 h3 (by rw [h2, h4, hpq])
  · obtain ⟨q', h1, h2⟩ := key k q hq
    rw [← h2]; exact h.2 k q' h1
theorem zx_CX_narrow {ex : List Nat} {A B : Nat → Prop} {U : State} {H : Heap} {sts : List (String × String × String × Nat)} {Y : zx_Y} (h : zx_CX ex A U H sts Y) (hAB : ∀ q, B q → A q) : zx_CX ex B U H sts Y :=
  ⟨⟨fun q hq => by obtain ⟨a, h1, h2⟩ := h.1.1 q hq; exact ⟨a, h1, h2.narrow hAB⟩, zx_XT_narrow hAB h.1.2⟩, fun q hq => by
    obtain ⟨a, h0, h1, h2, h3⟩ := h.2 q hq
    refine ⟨a, h0, h1, h2, ?_⟩
    by_cases h8 : q.1 < 8
    · rw [if_pos h8] at h3 ⊢; exact h3.narrow hAB
    · rw [if_neg h8] at h3 ⊢; exact ⟨h3.1.narrow hAB, fun k o n d e1 v e2 => (h3.2 k o n d e1 v e2).narrow hAB⟩⟩
end
