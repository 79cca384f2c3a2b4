noncomputable section
/-! zw: runs cut at places, with a state and a measure each -/
/-- the first unknowns are themselves -/
def zw_idp : Nat → Nat → List zx_L → Bool
  | _, 0, _ => true
  | i, m + 1, e :: r => (match e.1 with
    | [q] => Nat.beq q.1 i && (decide (q.2 = 1) && decide (e.2 = 0))
    | _ => false) && zw_idp (i + 1) m r
  | _, _ + 1, [] => false
theorem zw_idp_ok {ρ : List Int} : ∀ {m i : Nat} {σ : List zx_L} {ρ0 : List Int}, zw_idp i m σ = true → zw_sig ρ σ ρ0 → ∀ j, j < m → ρ0[j]? = ρ[i + j]?
  | 0, _, _, _, _, _, j, hj => by omega
  | m + 1, i, [], _, h, _, _, _ => nomatch h
  | m + 1, i, e :: r, [], _, hs, _, _ => hs.elim
  | m + 1, i, e :: r, v :: t, h, hs, j, hj => by
    rw [zw_idp, Bool.and_eq_true] at h
    obtain ⟨h1, h2⟩ := h
    cases j with
    | zero =>
      split at h1
      · rename_i q hq
        simp only [Bool.and_eq_true, decide_eq_true_iff] at h1
        obtain ⟨k1, k2, k3⟩ := h1
        obtain ⟨u, g1, g2⟩ := zx_ev_iff.mp hs.1
        rw [hq] at g1
        obtain ⟨v1, u1, g3, g4, g5⟩ := zx_evl_cons.mp g1
        cases g4
        rw [Nat.eq_of_beq_eq_true k1] at g3
        show some v = ρ[i + 0]?
        rw [Nat.add_zero, g3, g2, g5, k2, k3]
        congr 1
        omega
      · cases h1
    | succ j =>
      have := zw_idp_ok h2 hs.2 j (by omega)
      show t[j]? = _
      rw [this]; congr 1; omega
theorem zw_pre {ρe r ρ0 : List Int} {σ : List zx_L} {m : Nat} (hm : ρe.length = m) (h : zw_idp 0 m σ = true) (hs : zw_sig (ρe ++ r) σ ρ0) (hl : m ≤ ρ0.length) : ρ0 = ρe ++ ρ0.drop m := by
  apply List.ext_getElem?
  intro j
  by_cases hj : j < m
  · rw [zw_idp_ok h hs j hj, Nat.zero_add, List.getElem?_append_left (by omega), List.getElem?_append_left (by omega)]
  · rw [List.getElem?_append_right (by omega), List.getElem?_drop, hm]
    congr 1; omega
/-- which expressions stand for the unknowns of the other state: found by comparing (nothing is to be shown of how) -/
def zw_u0 (acc : List (Option zx_L)) : List (Nat × Int) → zx_L × List (Nat × Int)
  | [] => (([], 0), [])
  | q :: r => match acc[q.1]? with
    | some (some e) => (zx_add (zx_scale q.2 e) (zw_u0 acc r).1, (zw_u0 acc r).2)
    | _ => ((zw_u0 acc r).1, q :: (zw_u0 acc r).2)
def zw_u1 (acc : List (Option zx_L)) (e0 e : zx_L) : List (Option zx_L) := match zw_u0 acc e0.1 with
  | (f, [q]) => if q.2 = 1 then acc.set q.1 (some (zx_sub e (f.1, f.2 + e0.2))) else if q.2 = -1 then acc.set q.1 (some (zx_sub (f.1, f.2 + e0.2) e)) else acc
  | _ => acc
def zw_uV (acc : List (Option zx_L)) (v0 v : zx_V) : List (Option zx_L) := match v0, v with
  | .inl e0, .inl e => zw_u1 acc e0 e
  | _, _ => acc
def zw_uS (acc : List (Option zx_L)) (t0 t : zx_S) : List (Option zx_L) := match t0, t with
  | .inl v0, .inl v => zw_uV acc v0 v
  | _, _ => acc
def zw_uL (acc : List (Option zx_L)) : List zx_S → List zx_S → List (Option zx_L)
  | a :: r, b :: t => zw_uL (zw_uS acc a b) r t
  | _, _ => acc
def zw_nou : List zx_S → Bool
  | [] => true
  | .inl (.inl e) :: r => (match e.1 with
    | [] => zw_nou r
    | _ => false)
  | .inl (.inr _) :: r => zw_nou r
  | .inr _ :: r => zw_nou r
/-- rows: places known, or all places -/
def zw_uF1 (acc : List (Option zx_L)) (f : zx_L) (v0 : zx_V) : List (zx_L × zx_V) → List (Option zx_L)
  | [] => acc
  | q :: r => if (fun (d : zx_L) => zx_isc d && decide (d.2 = 0)) (zx_sub f q.1) = true then zw_uV acc v0 q.2 else zw_uF1 acc f v0 r
def zw_uF2 (acc : List (Option zx_L)) (src : List (zx_L × zx_V)) (q0 : zx_L × zx_V) : zx_L × List (Nat × Int) → List (Option zx_L)
  | (f, []) => zw_uF1 acc (f.1, f.2 + q0.1.2) q0.2 src
  | _ => acc
def zw_uF (acc : List (Option zx_L)) (src : List (zx_L × zx_V)) : List (zx_L × zx_V) → List (Option zx_L)
  | [] => acc
  | q0 :: r => zw_uF (zw_uF2 acc src q0 (zw_u0 acc q0.1.1)) src r
def zw_uR (acc : List (Option zx_L)) (a b : Nat × Nat × Bool × List zx_S) : List (Option zx_L) := match a.2.2.1 with
  | true => (match a.2.2.2, b.2.2.2 with
    | _ :: x :: r, _ :: t => zw_uF acc (zx_fs t) (zx_fs (x :: r))
    | _, _ => acc)
  | false => if zw_nou a.2.2.2 = true then acc else zw_uL acc a.2.2.2 b.2.2.2
def zw_uH (acc : List (Option zx_L)) : List zx_C → List zx_C → List (Option zx_L)
  | .inl a :: r, .inl b :: t => if zw_nou a.2 = true then zw_uH acc r t else zw_uH (zw_uL acc a.2 b.2) r t
  | .inr (.inl a) :: r, .inr (.inl b) :: t => zw_uH (zw_uR acc a b) r t
  | .inr (.inr _) :: r, _ :: t => zw_uH acc r t
  | .inr (.inl _) :: r, _ :: t => zw_uH acc r t
  | .inl _ :: r, .inr _ :: t => zw_uH acc r t
  | _, _ => acc
/-- once more, where some are wanting -/
def zw_mis : List (Option zx_L) → Bool
  | [] => false
  | none :: _ => true
  | some _ :: r => zw_mis r
def zw_uHH (acc : List (Option zx_L)) (a b : List zx_C) : List (Option zx_L) := (fun (c : List (Option zx_L)) => if zw_mis c = true then zw_uH c a b else c) (zw_uH acc a b)
def zw_uA (acc : List (Option zx_L)) : List zx_V → List zx_V → List (Option zx_L)
  | a :: r, b :: t => zw_uA (zw_uV acc a b) r t
  | _, _ => acc
def zw_ul (acc : List (Option zx_L)) (lv : List (Nat × zx_V)) : List (Nat × zx_V) → List (Option zx_L)
  | [] => acc
  | q :: r => match zx_lk lv q.1 with
    | some v => zw_ul (zw_uV acc q.2 v) lv r
    | none => zw_ul acc lv r
def zw_ids : Nat → Nat → List (Option zx_L)
  | _, 0 => []
  | i, m + 1 => some ([(i, 1)], 0) :: zw_ids (i + 1) m
def zw_nn : Nat → List (Option zx_L)
  | 0 => []
  | m + 1 => none :: zw_nn m
def zw_out : List (Option zx_L) → List zx_L
  | [] => []
  | some e :: r => e :: zw_out r
  | none :: r => ([], 0) :: zw_out r
/-- unknowns that have equations: what these say -/
def zw_qf1 (dn : List zx_L) (o : Option zx_L) (e : zx_L) : zx_L := match o with
  | none => e
  | some e0 => (zw_sub dn e0).getD e
def zw_qf (dn : List zx_L) : zx_G → List zx_L → List zx_L
  | q :: t, e :: r => zw_qf (dn ++ [zw_qf1 dn q.2 e]) t r
  | _, _ => dn
def zw_sgq (m : Nat) (G0 : zx_G) (l : List zx_L) : List zx_L := zw_qf (l.take m) (G0.drop m) (l.drop m)
def zw_sg (m : Nat) (T0 T : zx_T) : List zx_L := zw_sgq m T0.1 <| zw_out (zw_uHH (zw_uA (zw_ul (zw_ids 0 m ++ zw_nn (T0.1.length - m)) T.2.2.1 T0.2.2.1) T0.2.2.2.1 T.2.2.2.1) T0.2.1 T.2.1)
/-- a state is one of those that T0 speaks of -/
def zw_T (m : Nat) (T0 T : zx_T) (σ : List zx_L) : Bool := zw_bd T.1 σ T0.1 && (zw_idp 0 m σ && (Nat.ble m T0.1.length && (Nat.beq T0.2.1.length T.2.1.length && (zw_H T.2.1.length 0 σ T.1 T0.2.1 T.2.1 && (zw_lv T.2.1.length 0 σ T.1 T.2.2.1 T0.2.2.1 && (zw_Vs T.2.1.length 0 σ T.1 T0.2.2.2.1 T.2.2.2.1 && zx_le2 T.2.2.2.2 T0.2.2.2.2))))))
section ZWT
variable {D : va_G} {cl : List vw_C} {A : Nat → Prop} {b : Nat} {ex : List Nat} {ad0 : zx_A0} {nL : Nat} {s : State} {H : Heap} {locs : List Loc} {ls : Array Slot} {kc : List Value}
theorem zw_T_ok {m : Nat} {T0 T : zx_T} {σ : List zx_L} {ρe r : List Int} (hm : ρe.length = m) (h : zw_T m T0 T σ = true) (J : zx_J D cl A b ex ad0 nL s (ρe ++ r) T.1 T.2.1 T.2.2.1 T.2.2.2.1 H locs ls kc) : ∃ r', zw_sig (ρe ++ r) σ (ρe ++ r') ∧ zx_J D cl A b ex ad0 nL s (ρe ++ r') T0.1 T0.2.1 T0.2.2.1 T0.2.2.2.1 H locs ls kc ∧ zx_le2 T.2.2.2.2 T0.2.2.2.2 = true := by
  unfold zw_T at h
  simp only [Bool.and_eq_true] at h
  obtain ⟨h1, h2, h3, h4, h5, h6, h7, h8⟩ := h
  obtain ⟨hG, tys, ws, lc, b1, b2, b3, b4, b5, b6, b7, b8⟩ := J
  obtain ⟨ρ0, g1, g2⟩ := zw_bd_ok hG h1
  have g3 := zw_pre hm h2 g1 (by rw [g2.1]; exact Nat.le_of_ble_eq_true h3)
  rw [g3] at g1 g2
  have hlen := Nat.eq_of_beq_eq_true h4
  have had : ∀ i, i < T.2.1.length → (zx_as ws)[i]? = (zx_as ws)[i + 0]? := fun i _ => rfl
  have c5 := zw_H_ok hG g1 had h5 b5
  rw [List.take_of_length_le (by rw [← zx_F2_len b5, hlen]; exact Nat.le_refl _)] at c5
  obtain ⟨lc0, c6, c7⟩ := zw_lv_ok hG g1 had b6 h6
  exact ⟨ρ0.drop m, g1, ⟨g2, tys, ws, lc0, b1, b2, b3, b4, c5, c6, ⟨b7.1, b7.2.1, fun q hq => b7.2.2 q (c7 q hq)⟩, zw_Vs_ok hG g1 had h7 b8⟩, h8⟩
end ZWT
abbrev zw_Hd : Type := List (Nat × (zx_T × zx_L))
def zw_stp (hd : zw_Hd) (pc : Nat) : Bool := match zx_fd hd pc with
  | some _ => true
  | none => false
/-- the measure is less -/
def zw_mu (σ : List zx_L) (μ0 μ : zx_L) (G : zx_G) : Bool := match zw_sub σ μ0 with
  | some f => (match zv_rng G (zx_sub μ f) with
    | some t => decide (1 ≤ t.1)
    | none => false)
  | none => false
theorem zw_mu_ok {σ : List zx_L} {μ0 μ : zx_L} {G : zx_G} {ρ ρ0 : List Int} (hG : zx_ok ρ G) (hσ : zw_sig ρ σ ρ0) (h : zw_mu σ μ0 μ G = true) {v v0 : Int} (hv : zx_ev ρ μ = some v) (hv0 : zx_ev ρ0 μ0 = some v0) : v0 < v := by
  unfold zw_mu at h
  split at h
  · rename_i f hf
    split at h
    · rename_i t ht
      rw [decide_eq_true_iff] at h
      obtain ⟨w, h1, h2⟩ := zw_sub_ok hσ hf
      rw [hv0] at h1
      cases h1
      obtain ⟨k1, -⟩ := zv_rng_ok hG ht (zx_sub_ev hv h2)
      omega
    · cases h
  · cases h
/-- quick looks ahead of a comparison: numbers that are known on both sides, single objects -/
def zw_qe (a b : zx_V) : Bool := match a, b with
  | .inl e, .inl f => (match e.1, f.1 with
    | [], [] => decide (e.2 = f.2)
    | _, _ => true)
  | .inr (.inl r), .inr (.inl s) => (match r.1, s.1 with
    | [x], [y] => Nat.beq x y
    | _, _ => true)
  | _, _ => true
def zw_qs (a b : zx_S) : Bool := match a, b with
  | .inl v, .inl w => zw_qe v w
  | _, _ => true
def zw_ql : List zx_S → List zx_S → Bool
  | a :: r, b :: t => zw_qs a b && zw_ql r t
  | _, _ => true
def zw_qo : List zx_C → List zx_C → Bool
  | .inl a :: r, .inl b :: t => zw_ql a.2 b.2 && zw_qo r t
  | _ :: r, _ :: t => zw_qo r t
  | _, _ => true
def zw_qvs : List zx_V → List zx_V → Bool
  | a :: r, b :: t => zw_qe a b && zw_qvs r t
  | _, _ => true
def zw_qlv (lv : List (Nat × zx_V)) : List (Nat × zx_V) → Bool
  | [] => true
  | q :: r => (match zx_lk lv q.1 with
    | some v => zw_qe q.2 v
    | none => true) && zw_qlv lv r
def zw_qk (T0 T : zx_T) : Bool := zw_qvs T0.2.2.2.1 T.2.2.2.1 && (zw_qlv T.2.2.1 T0.2.2.1 && zw_qo T0.2.1 T.2.1)
/-- an end is one of those that o0 speaks of -/
def zw_E1 (m : Nat) (o0 o : zx_Ou) (σ : List zx_L) : Bool := zw_bd o.1 σ o0.1 && (zw_idp 0 m σ && (Nat.ble m o0.1.length && (Nat.beq o0.2.1.length o.2.1.length && (zw_H o.2.1.length 0 σ o.1 o0.2.1 o.2.1 && zw_Vs o.2.1.length 0 σ o.1 o0.2.2.toList o.2.2.toList))))
def zw_E (m : Nat) (o : zx_Ou) : List zx_Ou → Bool
  | [] => false
  | o0 :: r => ((zw_qvs o0.2.2.toList o.2.2.toList && zw_qo o0.2.1 o.2.1) && zw_E1 m o0 o (zw_sg m (o0.1, o0.2.1, [], o0.2.2.toList, (0, 0)) (o.1, o.2.1, [], o.2.2.toList, (0, 0)))) || zw_E m o r
theorem zw_E_ok {m : Nat} {o : zx_Ou} : ∀ {l : List zx_Ou}, zw_E m o l = true → ∃ o0 ∈ l, ∃ σ, zw_E1 m o0 o σ = true
  | [], h => nomatch h
  | o0 :: r, h => by
    rw [zw_E, Bool.or_eq_true] at h
    rcases h with h | h
    · rw [Bool.and_eq_true] at h
      exact ⟨o0, List.mem_cons_self, _, h.2⟩
    · obtain ⟨o1, h1, h2⟩ := zw_E_ok h
      exact ⟨o1, List.mem_cons_of_mem _ h1, h2⟩
def zw_muo (σ : List zx_L) (μ0 : zx_L) (μ : Option zx_L) (G : zx_G) : Bool := match μ with
  | some u => zw_mu σ μ0 u G
  | none => true
def zw_cT (m : Nat) (μ : Option zx_L) (q : Nat × zx_T) : zw_Hd → Bool
  | [] => false
  | t :: r => (Nat.beq t.1 q.1 && (zw_qk t.2.1 q.2 && (fun (σ : List zx_L) => zw_T m t.2.1 q.2 σ && zw_muo σ t.2.2 μ q.2.1) (zw_sg m t.2.1 q.2))) || zw_cT m μ q r
theorem zw_cT_ok {m : Nat} {μ : Option zx_L} {q : Nat × zx_T} : ∀ {hd : zw_Hd}, zw_cT m μ q hd = true → ∃ t σ, (q.1, t) ∈ hd ∧ zw_T m t.1 q.2 σ = true ∧ ∀ u, μ = some u → zw_mu σ t.2 u q.2.1 = true
  | [], h => nomatch h
  | t :: r, h => by
    rw [zw_cT, Bool.or_eq_true] at h
    rcases h with h | h
    · simp only [Bool.and_eq_true] at h
      obtain ⟨h1, -, h2, h3⟩ := h
      refine ⟨t.2, _, ?_, h2, fun u hu => ?_⟩
      · rw [← Nat.eq_of_beq_eq_true h1]; exact List.mem_cons_self
      · rw [hu] at h3; exact h3
    · obtain ⟨t', σ, h1, h2, h3⟩ := zw_cT_ok h
      exact ⟨t', σ, List.mem_cons_of_mem _ h1, h2, h3⟩
def zw_ck (m : Nat) (hd : zw_Hd) (outs : List zx_Ou) (μ : Option zx_L) : List zx_Os → Bool
  | [] => true
  | .inr q :: r => zw_cT m μ q hd && zw_ck m hd outs μ r
  | .inl o :: r => zw_E m o outs && zw_ck m hd outs μ r
theorem zw_ck_r {m : Nat} {hd : zw_Hd} {outs : List zx_Ou} {μ : Option zx_L} {q : Nat × zx_T} : ∀ {os : List zx_Os}, zw_ck m hd outs μ os = true → .inr q ∈ os → ∃ t σ, (q.1, t) ∈ hd ∧ zw_T m t.1 q.2 σ = true ∧ ∀ u, μ = some u → zw_mu σ t.2 u q.2.1 = true
  | .inr q0 :: r, h, hq => by
    rw [zw_ck, Bool.and_eq_true] at h
    rcases List.mem_cons.mp hq with e | e
    · cases e
      exact zw_cT_ok h.1
    · exact zw_ck_r h.2 e
  | .inl o :: r, h, hq => by
    rw [zw_ck, Bool.and_eq_true] at h
    rcases List.mem_cons.mp hq with e | e
    · cases e
    · exact zw_ck_r h.2 e
theorem zw_ck_l {m : Nat} {hd : zw_Hd} {outs : List zx_Ou} {μ : Option zx_L} {o : zx_Ou} : ∀ {os : List zx_Os}, zw_ck m hd outs μ os = true → .inl o ∈ os → zw_E m o outs = true
  | .inr q0 :: r, h, hq => by
    rw [zw_ck, Bool.and_eq_true] at h
    rcases List.mem_cons.mp hq with e | e
    · cases e
    · exact zw_ck_l h.2 e
  | .inl o :: r, h, hq => by
    rw [zw_ck, Bool.and_eq_true] at h
    rcases List.mem_cons.mp hq with e | e
    · cases e; exact h.1
    · exact zw_ck_l h.2 e
/-- a place: its measure is 0 at least, and all ways from it hold -/
def zw_ho (Y : zx_Y) (dt : List (List Nat)) (rmt : List (Nat × Nat)) (md : zx_MD) (f : zx_Fn) (n m : Nat) (hd : zw_Hd) (outs : List zx_Ou) (t : Nat × (zx_T × zx_L)) : Bool := (match zw_r2 t.2.1.1 t.2.2 with
    | some q => decide (0 ≤ q.1)
    | none => false) && (match zx_ex Y dt rmt (zw_stp hd) md f n (zx_drop t.1 md.1) t.2.1.1 t.2.1.2.1 t.2.1.2.2.1 t.2.1.2.2.2.2 t.2.1.2.2.2.1 with
    | some os => zw_ck m hd outs (some t.2.2) os
    | none => false)
section ZWX
variable {p : Program} {l : Launch} {e : Env} {R : Room} {s : State} {mi : MethodId} {args : Array Value} {below : List Frame} {meth : Method} {c : Code} {Q : State → Prop}
variable {D : va_G} {cl : List vw_C} {A : Nat → Prop} {b : Nat} {ex : List Nat} {ad0 : zx_A0} {nL : Nat}
variable {cc : ByteArray} {own : String} {Ts nw : List Jvm.Cond} {sts : List (String × String × String × Nat)} {Y : zx_Y} {aos : List String} {dt : List (List Nat)} {xs : Nat → Int32} {PR : zx_PR} {rmt : List (Nat × Nat)} {f : zx_Fn} {d : Nat} {md : zx_MD}
/-- what is owed where the method ends -/
def zw_KE (p : Program) (l : Launch) (e : Env) (R : Room) (s : State) (mi : MethodId) (args : Array Value) (below : List Frame) (meth : Method) (c : Code) (Q : State → Prop) (D : va_G) (cl : List vw_C) (A : Nat → Prop) (b : Nat) (ex : List Nat) (ad0 : zx_A0) (cc : ByteArray) (rt : Nat) (rm : Nat × Nat) (ρe : List Int) (outs : List zx_Ou) : Prop :=
  ∀ (o o0 : zx_Ou) (ρ r' : List Int), o0 ∈ outs → ∀ (H' : Heap) (locs' : List Loc) (ls' : Array Slot) (kc' : List Value) (pc' : Nat) (k' : Nat × Nat) (ir : Instr) (tys : List (ClassId × FieldType)) (ws : va_W), zx_ok ρ o.1 → va_K D cl tys s → va_P D cl ws H' → va_D A ws → va_S A s.heap H' locs' → zx_KP ad0 ws → k'.1 ≤ rm.1 → k'.2 ≤ rm.2 → decode cc pc' = .ok (ir, 1) → zx_end b ex ρ (zx_as ws) rt ir o kc' →
    zx_ok (ρe ++ r') o0.1 → zx_F2 (fun c q => zx_RC cl b ex (ρe ++ r') (zx_as ws) tys c q.2) o0.2.1 ws → (∀ v, zx_rv b ex ρ (zx_as ws) o.2.2 v → zx_rv b ex (ρe ++ r') (zx_as ws) o0.2.2 v) → W p l e R s mi args below meth c H' locs' k'.1 k'.2 Q (F0 mi pc' ls' kc')
theorem zw_end_ok {m : Nat} {outs : List zx_Ou} {ρe r : List Int} (hm : ρe.length = m) {rt : Nat} {rm : Nat × Nat} (KE : zw_KE p l e R s mi args below meth c Q D cl A b ex ad0 cc rt rm ρe outs) {o : zx_Ou} (ho : zw_E m o outs = true) {H' : Heap} {locs' : List Loc} {ls' : Array Slot} {kc' : List Value} {pc' : Nat} {k' : Nat × Nat} {ir : Instr} {tys : List (ClassId × FieldType)} {ws : va_W} (g1 : zx_ok (ρe ++ r) o.1) (g2 : va_K D cl tys s) (g3 : va_P D cl ws H') (g4 : va_D A ws) (g5 : va_S A s.heap H' locs') (g6 : zx_KP ad0 ws) (g7 : zx_F2 (fun c q => zx_RC cl b ex (ρe ++ r) (zx_as ws) tys c q.2) o.2.1 ws) (g8 : k'.1 ≤ rm.1) (g9 : k'.2 ≤ rm.2) (g10 : decode cc pc' = .ok (ir, 1)) (g11 : zx_end b ex (ρe ++ r) (zx_as ws) rt ir o kc') : W p l e R s mi args below meth c H' locs' k'.1 k'.2 Q (F0 mi pc' ls' kc') := by
  obtain ⟨o0, ho0, σ, h⟩ := zw_E_ok ho
  unfold zw_E1 at h
  simp only [Bool.and_eq_true] at h
  obtain ⟨h1, h2, h3, h4, h5, h6⟩ := h
  obtain ⟨ρ0, k1, k2⟩ := zw_bd_ok g1 h1
  have k3 := zw_pre hm h2 k1 (by rw [k2.1]; exact Nat.le_of_ble_eq_true h3)
  rw [k3] at k1 k2
  have hlen := Nat.eq_of_beq_eq_true h4
  have had : ∀ i, i < o.2.1.length → (zx_as ws)[i]? = (zx_as ws)[i + 0]? := fun i _ => rfl
  have c5 := zw_H_ok g1 k1 had h5 g7
  rw [List.take_of_length_le (by rw [← zx_F2_len g7, hlen]; exact Nat.le_refl _)] at c5
  refine KE o o0 (ρe ++ r) (ρ0.drop m) ho0 H' locs' ls' kc' pc' k' ir tys ws g1 g2 g3 g4 g5 g6 g8 g9 g10 g11 k2 c5 (fun v hv => ?_)
  revert h6 hv
  rcases o.2.2 with _ | x <;> rcases o0.2.2 with _ | x0 <;> rcases v with _ | y
  · exact fun _ _ => trivial
  · exact fun _ hv => hv.elim
  · exact fun h6 _ => nomatch h6
  · exact fun h6 _ => nomatch h6
  · exact fun h6 _ => nomatch h6
  · exact fun h6 _ => nomatch h6
  · exact fun _ hv => hv.elim
  · intro h6 hv
    have h7 : zw_V o.2.1.length 0 σ o.1 x0 x = true := by
      have h8 : zw_Vs o.2.1.length 0 σ o.1 [x0] [x] = true := h6
      rw [zw_Vs, Bool.and_eq_true] at h8
      exact h8.1
    exact zw_V_ok g1 k1 had h7 hv
theorem zw_SX_r {M : zx_M} {ρe r r' : List Int} (hX : zx_mX M = true → 8 ≤ ρe.length) (S : zx_SX b xs A s M (ρe ++ r)) : zx_SX b xs A s M (ρe ++ r') := by
  intro hx
  obtain ⟨L, i0, h1, h2, h3, h4, h5, h57, h6⟩ := S hx
  have h7 := hX hx
  refine ⟨L, i0, h1, h2, h3, h4, ?_, ?_, fun j hj => ?_⟩
  · rw [List.getElem?_append_left (by omega)] at h5 ⊢; exact h5
  · rw [List.getElem?_append_left (by omega)] at h57 ⊢; exact h57
  · have := h6 j hj
    rw [List.getElem?_append_left (by omega)] at this ⊢; exact this
theorem zw_heads_ok (hYO : zx_YO Y ad0) (F : zx_FX p s mi args meth c R cc own Ts nw cl A ex nL sts Y aos dt md.2.1) (harr : ∀ ty ∈ [FieldType.int, FieldType.byte, FieldType.boolean, FieldType.long], Jvm.Cond.arrayClass ty ∈ Ts) (hf : zx_FOK l cl Ts nw sts Y aos PR rmt d f) (hLK : zx_LK own cl Ts nw PR md.2.2.1) (hgw : Ts.all goodWord = true) (hnk : nw.all zx_nk = true) (hroom : d + 1 ≤ R.frames ∧ 100 * (d + 1) ≤ R.locals) (hml : c.maxLocals = nL) (htbl : zx_TB cc md.1)
    {n m : Nat} {hd : zw_Hd} {outs : List zx_Ou} {ρe : List Int} (hm : ρe.length = m) (hX : zx_mX md.2.1 = true → 8 ≤ ρe.length) (hall : ∀ t ∈ hd, zw_ho Y dt rmt md f n m hd outs t = true) (KE : zw_KE p l e R s mi args below meth c Q D cl A b ex ad0 cc md.2.2.2 (zx_mR md.2.1) ρe outs) :
    ∀ (N : Nat) (t : Nat × (zx_T × zx_L)) (r : List Int) (H : Heap) (locs : List Loc) (ls : Array Slot) (kc : List Value), t ∈ hd → zx_SX b xs A s md.2.1 (ρe ++ r) → zx_J D cl A b ex ad0 nL s (ρe ++ r) t.2.1.1 t.2.1.2.1 t.2.1.2.2.1 t.2.1.2.2.2.1 H locs ls kc → (∀ v, zx_ev (ρe ++ r) t.2.2 = some v → v.toNat < N) → W p l e R s mi args below meth c H locs t.2.1.2.2.2.2.1 t.2.1.2.2.2.2.2 Q (F0 mi t.1 ls kc) := by
  intro N
  induction N with
  | zero =>
    intro t r H locs ls kc ht hS J hN
    have h := hall t ht
    unfold zw_ho at h
    rw [Bool.and_eq_true] at h
    have h1 := h.1
    split at h1
    · rename_i q hq
      obtain ⟨v, hv, -, -⟩ := zw_r2_ok J.1 hq
      exact absurd (hN v hv) (Nat.not_lt_zero _)
    · cases h1
  | succ N ih =>
    intro t r H locs ls kc ht hS J hN
    have h := hall t ht
    unfold zw_ho at h
    rw [Bool.and_eq_true] at h
    obtain ⟨h1, h2⟩ := h
    split at h1
    · rename_i q hq
      rw [decide_eq_true_iff] at h1
      obtain ⟨v, hv, hv0, -⟩ := zw_r2_ok J.1 hq
      have hvN := hN v hv
      split at h2
      · rename_i os hos
        cases hc : zx_drop t.1 md.1 with
        | nil => rw [hc, zx_ex_nil] at hos; cases hos
        | cons x nx =>
          obtain ⟨g1, g2⟩ := zx_drop_ok (t := t.1) (l := md.1)
          rw [hc] at hos g1
          rw [← g2 x nx hc]
          refine zx_ex_ok (xs := xs) (md := md) (f := f) (k := t.2.1.2.2.2.2) hYO F harr hf hLK hgw hnk hroom hml htbl n x nx (ρe ++ r) _ _ _ _ os H locs ls kc hS g1 J hos ⟨fun o ho r2 H' locs' ls' kc' pc' k' ir tys ws g1 g2 g3 g4 g5 g6 g7 g8 g9 g10 g11 => ?_, fun q2 hq2 r2 H' locs' ls' kc' J' => ?_⟩
          · rw [List.append_assoc] at g1 g7 g11
            exact zw_end_ok hm KE (zw_ck_l h2 ho) g1 g2 g3 g4 g5 g6 g7 g8 g9 g10 g11
          · obtain ⟨t2, σ, k1, k2, k3⟩ := zw_ck_r h2 hq2
            rw [List.append_assoc] at J'
            have hv2 : zx_ev (ρe ++ (r ++ r2)) t.2.2 = some v := by
              rw [← List.append_assoc]; exact zx_ev_app hv
            have hG2 := J'.1
            obtain ⟨r', c1, c2, c3⟩ := zw_T_ok hm k2 J'
            unfold zx_le2 at c3
            rw [Bool.and_eq_true] at c3
            refine W.widen (k := t2.1.2.2.2.2.1) (n := t2.1.2.2.2.2.2) (Nat.le_of_ble_eq_true c3.1) (Nat.le_of_ble_eq_true c3.2) ?_
            refine ih (q2.1, t2) r' H' locs' ls' kc' k1 (zw_SX_r hX hS) c2 (fun v0 hv0' => ?_)
            have := zw_mu_ok hG2 c1 (k3 _ rfl) hv2 hv0'
            have hp := hall (q2.1, t2) k1
            unfold zw_ho at hp
            rw [Bool.and_eq_true] at hp
            have hp1 := hp.1
            split at hp1
            · rename_i q5 hq5
              rw [decide_eq_true_iff] at hp1
              obtain ⟨v9, k91, k92, -⟩ := zw_r2_ok c2.1 hq5
              rw [hv0'] at k91
              cases k91
              omega
            · cases hp1
      · cases h2
    · cases h1
end ZWX
end
