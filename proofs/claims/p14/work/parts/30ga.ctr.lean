noncomputable section
/-! zf: contracts with a premise of their own -/
def zw_ENX (l : Launch) (cl : List vw_C) (Ts nw : List Jvm.Cond) (sts : List (String × String × String × Nat)) (Y : zx_Y) (aos : List String) (PR : zx_PR) (rmt : List (Nat × Nat)) (d j : Nat) (G : zx_G) (h : List zx_C) (as : List zx_V) (outs : List zx_Ou) (X : List Int → va_W → Prop) : Prop :=
  ∀ (y : MethodName) (cc : ByteArray) (maxL : Nat) (ret : Option FieldType) (rm : Nat × Nat), PR[j]? = some (y, cc, maxL, ret) → rmt[j]? = some rm →
  ∀ (D : va_G) (A : Nat → Prop) (b : Nat) (ex : List Nat) (ρ : List Int) (tys : List (ClassId × FieldType)) (ws : va_W) (sz : Nat) (av : List Value), zx_ok ρ G → zx_F2 (fun c q => zx_RC cl b ex ρ (zx_as ws) tys c q.2) h ws → zx_F2 (zx_R b ex ρ (zx_as ws)) as av → (∀ q, sz ≤ q → A q) → X ρ ws →
  Met l y (Jvm.Cond.code y cc maxL ret :: Ts) ({ frames := d, cells := rm.1, slots := rm.2, locals := 100 * d }) (zx_Pc D cl A ex sts Y nw aos tys ws sz av) (zx_Qc D cl A b ex ρ ws Y.2.1 outs) rm.1 rm.2 A
section ZWLX
variable {l : Launch} {cl : List vw_C} {Ts nw : List Jvm.Cond} {sts : List (String × String × String × Nat)} {Y : zx_Y} {aos : List String} {PR : zx_PR} {rmt : List (Nat × Nat)}
theorem zw_locX_ok {d j : Nat} {G0 : zx_G} {h0 : List zx_C} {as0 : List zx_V} {outs : List zx_Ou} {K : List Nat} {X : List Int → va_W → Prop} (hen : zw_ENX l cl Ts nw sts (Y.1, K, fun _ => True) aos PR rmt d j G0 h0 as0 outs X) (hlen : ∀ u ∈ outs, u.2.1.length = h0.length) {o : Nat} {σ : List zx_L} {G : zx_G} {h : List zx_C} {as : List zx_V} (hbd : zw_bd G σ G0 = true) (hH : zw_H h0.length o σ G h0 (h.drop o) = true) (hAs : zw_Vs h0.length o σ G as0 as = true) (hkk : zw_kk o h0.length K Y.2.1 = true)
    {y : MethodName} {cc : ByteArray} {maxL : Nat} {ret : Option FieldType} {rm : Nat × Nat} (hPR : PR[j]? = some (y, cc, maxL, ret)) (hrm : rmt[j]? = some rm) {D : va_G} {A : Nat → Prop} {b : Nat} {ex : List Nat} {ρ : List Int} {tys : List (ClassId × FieldType)} {ws : va_W} {sz : Nat} {av : List Value} (hG : zx_ok ρ G) (hh : zx_F2 (fun c q => zx_RC cl b ex ρ (zx_as ws) tys c q.2) h ws) (ha : zx_F2 (zx_R b ex ρ (zx_as ws)) as av) (hsz : ∀ q, sz ≤ q → A q) (hX : ∀ ρ0, zw_sig ρ σ ρ0 → X ρ0 ((ws.drop o).take h0.length)) :
    Met l y (Jvm.Cond.code y cc maxL ret :: Ts) ({ frames := d, cells := rm.1, slots := rm.2, locals := 100 * d }) (zx_Pc D cl A ex sts Y nw aos tys ws sz av) (zx_Qc D cl A b ex ρ ws Y.2.1 (outs.map (zw_r1 K G h o h0.length G0.length σ))) rm.1 rm.2 A := by
  obtain ⟨ρ0, hσ, hG0⟩ := zw_bd_ok hG hbd
  have had : ∀ i, i < h0.length → (zx_as ((ws.drop o).take h0.length))[i]? = (zx_as ws)[i + o]? := by
    intro i hi
    rw [zx_as, zx_as, List.getElem?_map, List.getElem?_map, List.getElem?_take, if_pos hi, List.getElem?_drop, Nat.add_comm]
  have hdr := (zx_F2_take o hh).2
  have hh0 := zw_H_ok hG hσ had hH hdr
  have ha0 := zw_Vs_ok hG hσ had hAs ha
  have hl0 : ((ws.drop o).take h0.length).length = h0.length := (zx_F2_len hh0).symm
  have hcut : ws = ws.take o ++ ((ws.drop o).take h0.length ++ ws.drop (o + h0.length)) := by
    rw [← List.drop_drop, List.take_append_drop, List.take_append_drop]
  have key0 : ∀ (k : Nat) (q : Nat × va_E), ((ws.drop o).take h0.length)[k]? = some q → ws[k + o]? = some q ∧ k < h0.length := by
    intro k q hk
    have hk' := (List.getElem?_eq_some_iff.mp hk).1
    rw [hl0] at hk'
    rw [List.getElem?_take, if_pos hk', List.getElem?_drop, Nat.add_comm] at hk
    exact ⟨hk, hk'⟩
  have M0 := hen y cc maxL ret rm hPR hrm D (va_A ((ws.drop o).take h0.length) sz) b ex ρ0 tys ((ws.drop o).take h0.length) sz av hG0 hh0 ha0 (fun q hq => Or.inr hq) (hX ρ0 hσ)
  clear hX
  generalize (ws.drop o).take h0.length = ws0 at had hh0 ha0 hl0 hcut key0 M0
  have hAA : va_D A ws → ∀ q, va_A ws0 sz q → A q := by
    rintro p5 q (⟨k, e, hk⟩ | hq)
    · exact p5.2 _ _ (key0 k _ hk).1
    · exact hsz q hq
  refine zx_Met_imp M0 ⟨Nat.le_refl _, Nat.le_refl _, Nat.le_refl _, Nat.le_refl _⟩ ?_ ?_
  · intro a st hp
    obtain ⟨p1, p2, p3, p4, p5, p6, p7, p8⟩ := hp
    refine ⟨⟨p1, p2, fun k q hk => p3 _ q (key0 k q hk).1, p4, ⟨fun i j p q hi hj hpq => ?_, fun k q hk => Or.inl ⟨k, q.2, hk⟩⟩, zx_CX_narrow p6 (hAA p5), p7, p8⟩, hAA p5⟩
    have := p5.1 _ _ p q (key0 i p hi).1 (key0 j q hj).1 hpq
    omega
  · intro a st oc t hp hq hW
    obtain ⟨p1, p2, p3, p4, p5, p6, p7, p8⟩ := hp
    obtain ⟨⟨o1, ho1, v, r2, tys', ws1, hv, g1, g2, g3, g4, ⟨⟨xt, g5⟩, g50⟩, g6, g7⟩, gF⟩ := hq
    have hw1 : ws1.length = ws0.length := by rw [← zx_F2_len g6, hlen o1 ho1, hl0]
    replace g5 : zx_as ws1 = zx_as ws0 ++ xt := g5
    replace g50 : ∀ i ∈ K, ∀ q, ws0[i]? = some q → ws1[i]? = some q := g50
    have hxt : xt = [] := by
      have := congrArg List.length g5
      rw [List.length_append, zx_as, zx_as, List.length_map, List.length_map] at this
      exact List.eq_nil_of_length_eq_zero (by omega)
    subst hxt
    rw [List.append_nil] at g5
    have has : zx_as (ws.take o ++ (ws1 ++ ws.drop (o + h0.length))) = zx_as ws := by
      have h2 := congrArg zx_as hcut
      rw [h2]
      simp only [zx_as, List.map_append]
      rw [show List.map Prod.fst ws1 = List.map Prod.fst ws0 from g5]
    have had1 : ∀ (i a : Nat), (zx_as ws1)[i]? = some a → (zx_as ws)[i + o]? = some a := by
      intro i a hi
      have h2 := (List.getElem?_eq_some_iff.mp hi).1
      rw [zx_as, List.length_map, hw1, hl0] at h2
      rw [← had i h2, ← g5]; exact hi
    have hup : ∀ (c : zx_C) (q : Nat × va_E), zx_RC cl b ex ρ (zx_as ws) tys c q.2 → zx_RC cl b ex (ρ ++ r2) (zx_as ws) (tys ++ tys') c q.2 := fun c q hc => by
      have := zx_RC_app (r := r2) (q := []) (ty := tys') hc
      rwa [List.append_nil (zx_as ws)] at this
    have htys : ∀ (i : Nat) (q : ClassId × FieldType), tys'[i]? = some q → ∃ k : Nat, (tys ++ tys')[k]? = some q := fun i q hi => ⟨tys.length + i, by rw [List.getElem?_append_right (by omega)]; rw [← hi]; congr 1; omega⟩
    have hr2 : o1.1.length - G0.length = r2.length := by
      have := g1.1
      rw [List.length_append, hG0.1] at this
      omega
    have hs' : zw_sig (ρ ++ r2) (σ ++ zw_fr G.length (o1.1.length - G0.length)) (ρ0 ++ r2) := by
      rw [hr2, ← hG.1]
      exact zw_sig_fr hσ
    have hG' : zx_ok (ρ ++ r2) (G ++ zw_mG (σ ++ zw_fr G.length (o1.1.length - G0.length)) (o1.1.drop G0.length)) := by
      have := zw_ok_fr hG g1 hs'
      rwa [hG0.1] at this
    refine ⟨⟨_, List.mem_map_of_mem ho1, v, r2, tys ++ tys', ws.take o ++ (ws1 ++ ws.drop (o + h0.length)), hv, hG', va_K.app (va_K.moved hW.alike p4) g2, ?_, zx_D_as p5 has, ⟨⟨[], by rw [has, List.append_nil]⟩, fun i hi q hq => ?_⟩, ?_, ?_⟩, gF.1, fun q k1 k2 => gF.2 q k1 (fun k3 => k2 (hAA p5 q k3))⟩
    · have kept : ∀ (i : Nat) (q : Nat × va_E), ws[i]? = some q → (i < o ∨ o + h0.length ≤ i) → va_at D cl q t.heap := by
        intro i q hi hio
        have hlt := (p3 i q hi).lt
        refine (p3 i q hi).kept (gF.2 q.1 hlt ?_)
        rintro (⟨k, e, hk⟩ | hq)
        · have hk' := key0 k _ hk
          have := p5.1 i (k + o) q _ hi hk'.1 rfl
          omega
        · omega
      intro k q hk
      rcases List.mem_append.mp (List.mem_of_getElem? hk) with hm | hm
      · obtain ⟨i, hi⟩ := List.mem_iff_getElem?.mp hm
        rw [List.getElem?_take] at hi
        split at hi
        · exact kept i q hi (Or.inl (by assumption))
        · cases hi
      · rcases List.mem_append.mp hm with hm | hm
        · obtain ⟨i, hi⟩ := List.mem_iff_getElem?.mp hm
          exact g3 i q hi
        · obtain ⟨i, hi⟩ := List.mem_iff_getElem?.mp hm
          rw [List.getElem?_drop] at hi
          exact kept _ q hi (Or.inr (by omega))
    · replace hq : ws[i]? = some q := hq
      replace hi : i ∈ Y.2.1 := hi
      have hlt := (List.getElem?_eq_some_iff.mp hq).1
      have htl : (ws.take o).length = min o ws.length := List.length_take
      by_cases hio : i < o
      · rw [List.getElem?_append_left (by omega), List.getElem?_take, if_pos hio]
        exact hq
      · rw [List.getElem?_append_right (by omega), htl, Nat.min_eq_left (by omega)]
        have hwl : ws1.length = h0.length := by rw [hw1, hl0]
        by_cases hin : i < o + h0.length
        · rw [List.getElem?_append_left (by omega)]
          have hiK : i - o ∈ K := by
            rcases zw_kk_ok hkk hi with h | h | h
            · omega
            · omega
            · exact h
          refine g50 (i - o) hiK q ?_
          have h3 : i - o < ws0.length := by omega
          have h4 := (key0 (i - o) _ (List.getElem?_eq_getElem h3)).1
          rw [show i - o + o = i by omega, hq] at h4
          rw [List.getElem?_eq_getElem h3]
          exact h4.symm
        · rw [List.getElem?_append_right (by omega), List.getElem?_drop, hwl, show o + h0.length + (i - o - h0.length) = i by omega]
          exact hq
    · rw [has]
      refine zx_F2_app (zx_F2_app (zx_F2_imp hup (zx_F2_take (o + h0.length) hh).2) ?_) (zx_F2_imp hup (zx_F2_take o hh).1)
      refine zw_mgk_ok ?_ (fun k a q k1 k2 k3 => ?_)
      rotate_left
      · have h3 : k < ws0.length := by rw [← hw1]; exact (List.getElem?_eq_some_iff.mp k3).1
        have h5 := g50 k k2 _ (List.getElem?_eq_getElem h3)
        rw [k3] at h5
        have h6 := (key0 k _ (List.getElem?_eq_getElem h3)).1
        rw [List.getElem?_drop] at k1
        obtain ⟨q', j1, j2⟩ := zx_F2_get hh k1
        rw [Nat.add_comm, h6] at j1
        have h7 : q' = q := by
          have := j1.symm.trans h5.symm
          exact Option.some.inj this
        rw [← h7]
        exact hup _ _ j2
      exact zw_F2_map (R := fun (c : zx_C) (q : Nat × va_E) => zx_RC cl b ex (ρ0 ++ r2) (zx_as ws1) tys' c q.2) (S := fun (c : zx_C) (q : Nat × va_E) => zx_RC cl b ex (ρ ++ r2) (zx_as ws) (tys ++ tys') c q.2) (fun c q hc => zw_bC_ok hs' had1 htys hc) g6
    · rw [has]
      revert g7
      show zx_rv b ex (ρ0 ++ r2) (zx_as ws1) o1.2.2 v → zx_rv b ex (ρ ++ r2) (zx_as ws) (o1.2.2.map (zw_bV o (σ ++ zw_fr G.length (o1.1.length - G0.length)))) v
      rcases o1.2.2 with _ | x <;> rcases v with _ | xv
      · exact fun _ => trivial
      · exact fun g7 => g7.elim
      · exact fun g7 => g7.elim
      · exact fun g7 => zw_bV_ok (v := x) hs' had1 g7
end ZWLX
/-- what one expression stands for -/
def zf_is (G : zx_G) (σ : List zx_L) (i : Nat) (e : zx_L) : Bool := match zy_get σ i with
  | some f => (match zv_rng G (zx_sub f e) with
    | some t => decide (t.1 = 0) && decide (t.2 = 0)
    | none => false)
  | none => false
theorem zf_is_ok {ρ ρ0 : List Int} {G : zx_G} {σ : List zx_L} {i : Nat} {e : zx_L} {w : Int} (hG : zx_ok ρ G) (hσ : zw_sig ρ σ ρ0) (h : zf_is G σ i e = true) (he : zx_ev ρ e = some w) : ρ0[i]? = some w := by
  unfold zf_is at h
  rw [zy_get_eq] at h
  split at h
  · rename_i f hf
    split at h
    · rename_i t ht
      rw [Bool.and_eq_true, decide_eq_true_iff, decide_eq_true_iff] at h
      obtain ⟨v, h1, h2⟩ := zx_F2_get hσ hf
      have h3 := zv_rng_ok hG ht (zx_sub_ev h2 he)
      rw [h1]
      congr 1
      omega
    · cases h
  · cases h
/-- a place of a row is known -/
theorem zf_fact {s : State} {D : va_G} {cl : List vw_C} {A : Nat → Prop} {b : Nat} {ex : List Nat} {ad0 : zx_A0} {nL : Nat} {ρ : List Int} {h : List zx_C} {lv : List (Nat × zx_V)} {sk : List zx_V} {H : Heap} {locs : List Loc} {ls : Array Slot} {kc : List Value} {tys : List (ClassId × FieldType)} {ws : va_W} {lc : List (Nat × Value)} (B : zx_B D cl A b ex ad0 nL s ρ h lv sk H locs ls kc tys ws lc) {i n : Nat} {t : Int × Int} {fs : List zx_S} (hc : h[i]? = some (.inr (.inl (0, n, true, .inr t :: fs)))) {a : Nat} {cA : ClassId} {n' : Nat} {f : Nat → Int32} (hw : ws[i]? = some (a, .inl (cA, n', .inl f))) {e v : zx_L} {w : Nat} (he : zx_ev ρ e = some (w : Int)) (hwn : w < n) (hv : zx_ev ρ v = some (f w).toInt) : zx_B D cl A b ex ad0 nL s ρ (h.set i (.inr (.inl (0, n, true, .inr t :: .inl (.inl e) :: .inl (.inl v) :: fs)))) lv sk H locs ls kc tys ws lc := by
  obtain ⟨q, h1, cB, t0, h2, h3⟩ := zx_F2_get B.2.2.2.2.1 hc
  rw [hw] at h1
  cases h1
  rcases h3 with ⟨h3, g, h4, h5⟩ | ⟨h3, -⟩
  · cases h4
    obtain ⟨t', fs', h6, h7, h8⟩ := h5
    cases h6
    refine zv_B_cell B hw ⟨_, t0, h2, Or.inl ⟨h3, f, rfl, _, _, rfl, h7, fun q hq => ?_⟩⟩
    have hq : q ∈ (e, (.inl v : zx_V)) :: zx_fs fs := hq
    rcases List.mem_cons.mp hq with g | g
    · subst g
      exact ⟨(w : Int), he, by omega, by show (w : Int) < (n : Int); omega, f w, rfl, hv⟩
    · exact h8 q g
  · exact absurd (show (3 : Nat) ≤ 0 from h3) (by decide)
end
