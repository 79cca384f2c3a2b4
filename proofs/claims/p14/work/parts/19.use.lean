noncomputable section
/-! zw: a contract used where its state stands -/
def zw_fr (base : Nat) : Nat → List zx_L
  | 0 => []
  | k + 1 => zw_fr base k ++ [([(base + k, 1)], 0)]
theorem zw_fr_len {base : Nat} : ∀ k : Nat, (zw_fr base k).length = k
  | 0 => rfl
  | k + 1 => by rw [zw_fr, List.length_append, zw_fr_len k]; rfl
theorem zw_F2_of {α β : Type} {R : α → β → Prop} : ∀ {l : List α} {m : List β}, l.length = m.length → (∀ (i : Nat) (a : α) (b : β), l[i]? = some a → m[i]? = some b → R a b) → zx_F2 R l m
  | [], [], _, _ => trivial
  | a :: l, b :: m, h, hr => ⟨hr 0 a b rfl rfl, zw_F2_of (by simpa using h) (fun i x y hx hy => hr (i + 1) x y (by simpa using hx) (by simpa using hy))⟩
  | [], _ :: _, h, _ => by simp at h
  | _ :: _, [], h, _ => by simp at h
theorem zw_fr_get {base : Nat} : ∀ {k i : Nat}, i < k → (zw_fr base k)[i]? = some ([(base + i, 1)], 0)
  | 0, i, h => by omega
  | k + 1, i, h => by
    rw [zw_fr]
    by_cases hi : i < k
    · rw [List.getElem?_append_left (by rw [zw_fr_len]; exact hi)]
      exact zw_fr_get hi
    · have : i = k := by omega
      subst this
      rw [List.getElem?_append_right (by rw [zw_fr_len]; exact Nat.le_refl _), zw_fr_len, Nat.sub_self]
      rfl
theorem zw_sig_fr {ρ r2 ρ0 : List Int} {σ : List zx_L} (h : zw_sig ρ σ ρ0) : zw_sig (ρ ++ r2) (σ ++ zw_fr ρ.length r2.length) (ρ0 ++ r2) := by
  refine zx_F2_app ?_ (zx_F2_imp (fun e v he => zx_ev_app he) h)
  refine zw_F2_of (zw_fr_len _) (fun i e v he hv => ?_)
  have hi := (List.getElem?_eq_some_iff.mp hv).1
  rw [zw_fr_get hi] at he
  cases he
  refine zx_ev_iff.mpr ⟨v, zx_evl_cons.mpr ⟨v, 0, ?_, rfl, by simp⟩, by simp⟩
  show (ρ ++ r2)[ρ.length + i]? = some v
  rw [List.getElem?_append_right (by omega), Nat.add_sub_cancel_left]
  exact hv
/-- equations, unknowns for unknowns -/
def zw_mq (σ : List zx_L) (o : Option zx_L) : Option zx_L := match o with
  | some e => zw_sub σ e
  | none => none
def zw_mG (σ : List zx_L) (l : zx_G) : zx_G := l.map (fun b => (b.1, zw_mq σ b.2))
theorem zw_ok_fr {ρ ρ0 r2 : List Int} {G G1 : zx_G} {σ' : List zx_L} (hG : zx_ok ρ G) (h : zx_ok (ρ0 ++ r2) G1) (hs : zw_sig (ρ ++ r2) σ' (ρ0 ++ r2)) : zx_ok (ρ ++ r2) (G ++ zw_mG σ' (G1.drop ρ0.length)) := by
  have hl := h.1
  rw [List.length_append] at hl
  refine ⟨by rw [List.length_append, List.length_append, zw_mG, List.length_map, List.length_drop, hG.1]; omega, fun i v c hv hc => ?_⟩
  by_cases hi : i < ρ.length
  · rw [List.getElem?_append_left hi] at hv
    rw [List.getElem?_append_left (by rw [← hG.1]; exact hi)] at hc
    obtain ⟨k1, k2, k3⟩ := hG.2 i v c hv hc
    exact ⟨k1, k2, fun e he => zx_ev_app (k3 e he)⟩
  · have hv0 := hv
    rw [List.getElem?_append_right (by omega)] at hv
    rw [List.getElem?_append_right (by rw [← hG.1]; omega), zw_mG, List.getElem?_map, List.getElem?_drop, ← hG.1] at hc
    obtain ⟨c0, hc0, rfl⟩ := Option.map_eq_some_iff.mp hc
    obtain ⟨k1, k2, k3⟩ := h.2 (ρ0.length + (i - ρ.length)) v c0 (by rw [List.getElem?_append_right (by omega), Nat.add_sub_cancel_left]; exact hv) hc0
    refine ⟨k1, k2, fun e he => ?_⟩
    have he : zw_mq σ' c0.2 = some e := he
    unfold zw_mq at he
    split at he
    · rename_i e0 he0
      obtain ⟨w, j1, j2⟩ := zw_sub_ok hs he
      rw [k3 e0 he0] at j1
      cases j1
      exact j2
    · cases he
/-- an entry: which method, its state, its arguments, its ends; what it keeps, whether it wants what is known of that -/
abbrev zw_En : Type := Nat × (zx_G × (List zx_C × (List zx_V × (List zx_Ou × (List Nat × Bool)))))
/-- the cells that are kept are as they were -/
def zw_mg (K : List Nat) (i : Nat) : List zx_C → List zx_C → List zx_C
  | a :: r, u :: t => (if zx_wk0.zx_hs K i = true then a else u) :: zw_mg K (i + 1) r t
  | _, t => t
def zw_mgk (K : List Nat) (hs us : List zx_C) : List zx_C := match K with
  | [] => us
  | q :: r => zw_mg (q :: r) 0 hs us
/-- what the caller is to keep, the callee keeps, or has not -/
def zw_kk (o n : Nat) (K : List Nat) : List Nat → Bool
  | [] => true
  | i :: r => (Nat.blt i o || (Nat.ble (o + n) i || zx_wk0.zx_hs K (i - o))) && zw_kk o n K r
def zw_r1 (K : List Nat) (G : zx_G) (h : List zx_C) (o n m : Nat) (σ : List zx_L) (u : zx_Ou) : zx_Ou := (G ++ zw_mG (σ ++ zw_fr G.length (u.1.length - m)) (u.1.drop m), h.take o ++ (zw_mgk K (h.drop o) (u.2.1.map (zw_bC o (σ ++ zw_fr G.length (u.1.length - m)))) ++ h.drop (o + n)), u.2.2.map (zw_bV o (σ ++ zw_fr G.length (u.1.length - m))))
theorem zx_hs_yes {K : List Nat} {i : Nat} (h : zx_wk0.zx_hs K i = true) : i ∈ K := by
  induction K with
  | nil => cases h
  | cons q r ih =>
    rw [zx_wk0.zx_hs, Bool.or_eq_true] at h
    rcases h with h | h
    · rw [← Nat.eq_of_beq_eq_true h]; exact List.mem_cons_self
    · exact List.mem_cons_of_mem _ (ih h)
theorem zw_mg_ok {R : zx_C → Nat × va_E → Prop} {K : List Nat} : ∀ {hs us : List zx_C} {ws1 : va_W} {i : Nat}, zx_F2 R us ws1 → (∀ (k : Nat) (a : zx_C) (q : Nat × va_E), hs[k]? = some a → i + k ∈ K → ws1[k]? = some q → R a q) → zx_F2 R (zw_mg K i hs us) ws1
  | [], us, ws1, i, h, _ => by
    cases us with
    | nil => exact h
    | cons _ _ => exact h
  | a :: r, [], ws1, i, h, _ => h
  | a :: r, u :: t, [], i, h, _ => h.elim
  | a :: r, u :: t, q :: m, i, h, hk => by
    refine ⟨?_, zw_mg_ok h.2 (fun k a' q' h1 h2 h3 => hk (k + 1) a' q' (by simpa using h1) (by rw [show i + (k + 1) = i + 1 + k by omega]; exact h2) (by simpa using h3))⟩
    show R (if zx_wk0.zx_hs K i = true then a else u) q
    split
    · rename_i hi
      exact hk 0 a q rfl (zx_hs_yes hi) rfl
    · exact h.1
theorem zw_mgk_ok {R : zx_C → Nat × va_E → Prop} {K : List Nat} {hs us : List zx_C} {ws1 : va_W} (h : zx_F2 R us ws1) (hk : ∀ (k : Nat) (a : zx_C) (q : Nat × va_E), hs[k]? = some a → k ∈ K → ws1[k]? = some q → R a q) : zx_F2 R (zw_mgk K hs us) ws1 := by
  unfold zw_mgk
  split
  · exact h
  · exact zw_mg_ok h (fun k a q h1 h2 h3 => hk k a q h1 (by rwa [Nat.zero_add] at h2) h3)
theorem zw_kk_ok {o n : Nat} {K : List Nat} : ∀ {l : List Nat} {i : Nat}, zw_kk o n K l = true → i ∈ l → i < o ∨ o + n ≤ i ∨ i - o ∈ K
  | [], _, _, hi => nomatch hi
  | a :: r, i, h, hi => by
    rw [zw_kk, Bool.and_eq_true] at h
    rcases List.mem_cons.mp hi with e | e
    · subst e
      have h1 := h.1
      simp only [Bool.or_eq_true] at h1
      rcases h1 with h1 | h1 | h1
      · exact Or.inl (by rw [Nat.blt_eq] at h1; exact h1)
      · exact Or.inr (Or.inl (Nat.le_of_ble_eq_true h1))
      · exact Or.inr (Or.inr (zx_hs_yes h1))
    · exact zw_kk_ok h.2 e
/-- the same, with other cells kept, and with what is known of them or without -/
def zw_YK (Y : zx_Y) (K : List Nat) (fl : Bool) : zx_Y := (Y.1, K, if fl = true then Y.2.2 else fun _ => True)
section ZWL
variable {l : Launch} {cl : List vw_C} {Ts nw : List Jvm.Cond} {sts : List (String × String × String × Nat)} {Y : zx_Y} {aos : List String} {PR : zx_PR} {rmt : List (Nat × Nat)}
theorem zw_loc_ok {d j : Nat} {G0 : zx_G} {h0 : List zx_C} {as0 : List zx_V} {outs : List zx_Ou} {K : List Nat} {Iv : va_W → Prop} (hen : zw_EN l cl Ts nw sts (Y.1, K, Iv) aos PR rmt d j G0 h0 as0 outs) (hlen : ∀ u ∈ outs, u.2.1.length = h0.length) {o : Nat} {σ : List zx_L} {G : zx_G} {h : List zx_C} {as : List zx_V} (hbd : zw_bd G σ G0 = true) (hH : zw_H h0.length o σ G h0 (h.drop o) = true) (hAs : zw_Vs h0.length o σ G as0 as = true) (hkk : zw_kk o h0.length K Y.2.1 = true)
    {y : MethodName} {cc : ByteArray} {maxL : Nat} {ret : Option FieldType} {rm : Nat × Nat} (hPR : PR[j]? = some (y, cc, maxL, ret)) (hrm : rmt[j]? = some rm) {D : va_G} {A : Nat → Prop} {b : Nat} {ex : List Nat} {ρ : List Int} {tys : List (ClassId × FieldType)} {ws : va_W} {sz : Nat} {av : List Value} (hG : zx_ok ρ G) (hh : zx_F2 (fun c q => zx_RC cl b ex ρ (zx_as ws) tys c q.2) h ws) (ha : zx_F2 (zx_R b ex ρ (zx_as ws)) as av) (hsz : ∀ q, sz ≤ q → A q) (hIo : Iv ((ws.drop o).take h0.length)) :
    Met l y (Jvm.Cond.code y cc maxL ret :: Ts) ({ frames := d, cells := rm.1, slots := rm.2, locals := 100 * d }) (zx_Pc D cl A ex sts Y nw aos tys ws sz av) (zx_Qc D cl A b ex ρ ws Y.2.1 (outs.map (zw_r1 K G h o h0.length G0.length σ))) rm.1 rm.2 A := by
  obtain ⟨ρ0, hσ, hG0⟩ := zw_bd_ok hG hbd
  have had : ∀ i, i < h0.length → (zx_as ((ws.drop o).take h0.length))[i]? = (zx_as ws)[i + o]? := by
    intro i hi
    rw [zx_as, zx_as, List.getElem?_map, List.getElem?_map, List.getElem?_take, if_pos hi, List.getElem?_drop, Nat.add_comm]
  have hdr := (zx_F2_take o hh).2
  have hh0 := zw_H_ok hG hσ had hH hdr
  have ha0 := zw_Vs_ok hG hσ had hAs ha
  have hl0 : ((ws.drop o).take h0.length).length = h0.length := (zx_F2_len hh0).symm
  have hcut : ws = ws.take o ++ ((ws.drop o).take h0.length ++ ws.drop (o + h0.length)) := by
    rw [← List.drop_drop, List.take_append_drop, List.take_append_drop]
  have key0 : ∀ (k : Nat) (q : Nat × va_E), ((ws.drop o).take h0.length)[k]? = some q → ws[k + o]? = some q ∧ k < h0.length := by
    intro k q hk
    have hk' := (List.getElem?_eq_some_iff.mp hk).1
    rw [hl0] at hk'
    rw [List.getElem?_take, if_pos hk', List.getElem?_drop, Nat.add_comm] at hk
    exact ⟨hk, hk'⟩
  have M0 := hen y cc maxL ret rm hPR hrm D (va_A ((ws.drop o).take h0.length) sz) b ex ρ0 tys ((ws.drop o).take h0.length) sz av hG0 hh0 ha0 (fun q hq => Or.inr hq) hIo
  clear hIo
  generalize (ws.drop o).take h0.length = ws0 at had hh0 ha0 hl0 hcut key0 M0
  have hAA : va_D A ws → ∀ q, va_A ws0 sz q → A q := by
    rintro p5 q (⟨k, e, hk⟩ | hq)
    · exact p5.2 _ _ (key0 k _ hk).1
    · exact hsz q hq
  refine zx_Met_imp M0 ⟨Nat.le_refl _, Nat.le_refl _, Nat.le_refl _, Nat.le_refl _⟩ ?_ ?_
  · intro a st hp
    obtain ⟨p1, p2, p3, p4, p5, p6, p7, p8⟩ := hp
    refine ⟨⟨p1, p2, fun k q hk => p3 _ q (key0 k q hk).1, p4, ⟨fun i j p q hi hj hpq => ?_, fun k q hk => Or.inl ⟨k, q.2, hk⟩⟩, zx_CX_narrow p6 (hAA p5), p7, p8⟩, hAA p5⟩
    have := p5.1 _ _ p q (key0 i p hi).1 (key0 j q hj).1 hpq
    omega
  · intro a st oc t hp hq hW
    obtain ⟨p1, p2, p3, p4, p5, p6, p7, p8⟩ := hp
    obtain ⟨⟨o1, ho1, v, r2, tys', ws1, hv, g1, g2, g3, g4, ⟨⟨xt, g5⟩, g50⟩, g6, g7⟩, gF⟩ := hq
    have hw1 : ws1.length = ws0.length := by rw [← zx_F2_len g6, hlen o1 ho1, hl0]
    replace g5 : zx_as ws1 = zx_as ws0 ++ xt := g5
    replace g50 : ∀ i ∈ K, ∀ q, ws0[i]? = some q → ws1[i]? = some q := g50
    have hxt : xt = [] := by
      have := congrArg List.length g5
      rw [List.length_append, zx_as, zx_as, List.length_map, List.length_map] at this
      exact List.eq_nil_of_length_eq_zero (by omega)
    subst hxt
    rw [List.append_nil] at g5
    have has : zx_as (ws.take o ++ (ws1 ++ ws.drop (o + h0.length))) = zx_as ws := by
      have h2 := congrArg zx_as hcut
      rw [h2]
      simp only [zx_as, List.map_append]
      rw [show List.map Prod.fst ws1 = List.map Prod.fst ws0 from g5]
    have had1 : ∀ (i a : Nat), (zx_as ws1)[i]? = some a → (zx_as ws)[i + o]? = some a := by
      intro i a hi
      have h2 := (List.getElem?_eq_some_iff.mp hi).1
      rw [zx_as, List.length_map, hw1, hl0] at h2
      rw [← had i h2, ← g5]; exact hi
    have hup : ∀ (c : zx_C) (q : Nat × va_E), zx_RC cl b ex ρ (zx_as ws) tys c q.2 → zx_RC cl b ex (ρ ++ r2) (zx_as ws) (tys ++ tys') c q.2 := fun c q hc => by
      have := zx_RC_app (r := r2) (q := []) (ty := tys') hc
      rwa [List.append_nil (zx_as ws)] at this
    have htys : ∀ (i : Nat) (q : ClassId × FieldType), tys'[i]? = some q → ∃ k : Nat, (tys ++ tys')[k]? = some q := fun i q hi => ⟨tys.length + i, by rw [List.getElem?_append_right (by omega)]; rw [← hi]; congr 1; omega⟩
    have hr2 : o1.1.length - G0.length = r2.length := by
      have := g1.1
      rw [List.length_append, hG0.1] at this
      omega
    have hs' : zw_sig (ρ ++ r2) (σ ++ zw_fr G.length (o1.1.length - G0.length)) (ρ0 ++ r2) := by
      rw [hr2, ← hG.1]
      exact zw_sig_fr hσ
    have hG' : zx_ok (ρ ++ r2) (G ++ zw_mG (σ ++ zw_fr G.length (o1.1.length - G0.length)) (o1.1.drop G0.length)) := by
      have := zw_ok_fr hG g1 hs'
      rwa [hG0.1] at this
    refine ⟨⟨_, List.mem_map_of_mem ho1, v, r2, tys ++ tys', ws.take o ++ (ws1 ++ ws.drop (o + h0.length)), hv, hG', va_K.app (va_K.moved hW.alike p4) g2, ?_, zx_D_as p5 has, ⟨⟨[], by rw [has, List.append_nil]⟩, fun i hi q hq => ?_⟩, ?_, ?_⟩, gF.1, fun q k1 k2 => gF.2 q k1 (fun k3 => k2 (hAA p5 q k3))⟩
    · have kept : ∀ (i : Nat) (q : Nat × va_E), ws[i]? = some q → (i < o ∨ o + h0.length ≤ i) → va_at D cl q t.heap := by
        intro i q hi hio
        have hlt := (p3 i q hi).lt
        refine (p3 i q hi).kept (gF.2 q.1 hlt ?_)
        rintro (⟨k, e, hk⟩ | hq)
        · have hk' := key0 k _ hk
          have := p5.1 i (k + o) q _ hi hk'.1 rfl
          omega
        · omega
      intro k q hk
      rcases List.mem_append.mp (List.mem_of_getElem? hk) with hm | hm
      · obtain ⟨i, hi⟩ := List.mem_iff_getElem?.mp hm
        rw [List.getElem?_take] at hi
        split at hi
        · exact kept i q hi (Or.inl (by assumption))
        · cases hi
      · rcases List.mem_append.mp hm with hm | hm
        · obtain ⟨i, hi⟩ := List.mem_iff_getElem?.mp hm
          exact g3 i q hi
        · obtain ⟨i, hi⟩ := List.mem_iff_getElem?.mp hm
          rw [List.getElem?_drop] at hi
          exact kept _ q hi (Or.inr (by omega))
    · replace hq : ws[i]? = some q := hq
      replace hi : i ∈ Y.2.1 := hi
      have hlt := (List.getElem?_eq_some_iff.mp hq).1
      have htl : (ws.take o).length = min o ws.length := List.length_take
      by_cases hio : i < o
      · rw [List.getElem?_append_left (by omega), List.getElem?_take, if_pos hio]
        exact hq
      · rw [List.getElem?_append_right (by omega), htl, Nat.min_eq_left (by omega)]
        have hwl : ws1.length = h0.length := by rw [hw1, hl0]
        by_cases hin : i < o + h0.length
        · rw [List.getElem?_append_left (by omega)]
          have hiK : i - o ∈ K := by
            rcases zw_kk_ok hkk hi with h | h | h
            · omega
            · omega
            · exact h
          refine g50 (i - o) hiK q ?_
          have h3 : i - o < ws0.length := by omega
          have h4 := (key0 (i - o) _ (List.getElem?_eq_getElem h3)).1
          rw [show i - o + o = i by omega, hq] at h4
          rw [List.getElem?_eq_getElem h3]
          exact h4.symm
        · rw [List.getElem?_append_right (by omega), List.getElem?_drop, hwl, show o + h0.length + (i - o - h0.length) = i by omega]
          exact hq
    · rw [has]
      refine zx_F2_app (zx_F2_app (zx_F2_imp hup (zx_F2_take (o + h0.length) hh).2) ?_) (zx_F2_imp hup (zx_F2_take o hh).1)
      refine zw_mgk_ok ?_ (fun k a q k1 k2 k3 => ?_)
      rotate_left
      · have h3 : k < ws0.length := by rw [← hw1]; exact (List.getElem?_eq_some_iff.mp k3).1
        have h5 := g50 k k2 _ (List.getElem?_eq_getElem h3)
        rw [k3] at h5
        have h6 := (key0 k _ (List.getElem?_eq_getElem h3)).1
        rw [List.getElem?_drop] at k1
        obtain ⟨q', j1, j2⟩ := zx_F2_get hh k1
        rw [Nat.add_comm, h6] at j1
        have h7 : q' = q := by
          have := j1.symm.trans h5.symm
          exact Option.some.inj this
        rw [← h7]
        exact hup _ _ j2
      exact zw_F2_map (R := fun (c : zx_C) (q : Nat × va_E) => zx_RC cl b ex (ρ0 ++ r2) (zx_as ws1) tys' c q.2) (S := fun (c : zx_C) (q : Nat × va_E) => zx_RC cl b ex (ρ ++ r2) (zx_as ws) (tys ++ tys') c q.2) (fun c q hc => zw_bC_ok hs' had1 htys hc) g6
    · rw [has]
      revert g7
      show zx_rv b ex (ρ0 ++ r2) (zx_as ws1) o1.2.2 v → zx_rv b ex (ρ ++ r2) (zx_as ws) (o1.2.2.map (zw_bV o (σ ++ zw_fr G.length (o1.1.length - G0.length)))) v
      rcases o1.2.2 with _ | x <;> rcases v with _ | xv
      · exact fun _ => trivial
      · exact fun g7 => g7.elim
      · exact fun g7 => g7.elim
      · exact fun g7 => zw_bV_ok (v := x) hs' had1 g7
/-- where the entry's cells would stand -/
def zw_off (as0 as : List zx_V) : Nat := match as0, as with
  | .inr (.inl (i :: _, _)) :: _, .inr (.inl (j :: _, _)) :: _ => j - i
  | _, _ => 0
def zw_sg1 (G0 : zx_G) (h0 : List zx_C) (as0 : List zx_V) (h : List zx_C) (as : List zx_V) : List zx_L := zw_sgq 0 G0 <| zw_out (zw_uHH (zw_uA (zw_nn G0.length) as0 as) h0 h)
def zw_mmE (KK : List Nat) (fl : Bool) (j : Nat) (G : zx_G) (h : List zx_C) (as : List zx_V) : List zw_En → Option (List zx_Ou)
  | [] => none
  | en :: t => if (Nat.beq en.1 j && ((fun (o : Nat) (σ : List zx_L) => zw_Vs en.2.2.1.length o σ G en.2.2.2.1 as && (zw_bd G σ en.2.1 && (zw_H en.2.2.1.length o σ G en.2.2.1 (h.drop o) && (zw_mm1 KK fl o en h && en.2.2.2.2.1.all (fun u => Nat.beq u.2.1.length en.2.2.1.length))))) (zw_off en.2.2.2.1 as) (zw_sg1 en.2.1 en.2.2.1 en.2.2.2.1 (h.drop (zw_off en.2.2.2.1 as)) as))) = true then some (en.2.2.2.2.1.map (zw_r1 en.2.2.2.2.2.1 G h (zw_off en.2.2.2.1 as) en.2.2.1.length en.2.1.length (zw_sg1 en.2.1 en.2.2.1 en.2.2.2.1 (h.drop (zw_off en.2.2.2.1 as)) as))) else zw_mmE KK fl j G h as t
where zw_mm1 (KK : List Nat) (fl : Bool) (o : Nat) (en : zw_En) (h : List zx_C) : Bool := zw_kk o en.2.2.1.length en.2.2.2.2.2.1 KK && (!en.2.2.2.2.2.2 || (fl && (Nat.beq o 0 && Nat.beq en.2.2.1.length h.length)))
def zw_mm (KK : List Nat) (fl : Bool) (E : List zw_En) : zx_Fn := fun j G h as => zw_mmE KK fl j G h as E
def zw_EOK (l : Launch) (cl : List vw_C) (Ts nw : List Jvm.Cond) (sts : List (String × String × String × Nat)) (Y : zx_Y) (aos : List String) (PR : zx_PR) (rmt : List (Nat × Nat)) (d0 : Nat) (E : List zw_En) : Prop :=
  ∀ en ∈ E, ∃ d : Nat, d ≤ d0 ∧ zw_EN l cl Ts nw sts (zw_YK Y en.2.2.2.2.2.1 en.2.2.2.2.2.2) aos PR rmt d en.1 en.2.1 en.2.2.1 en.2.2.2.1 en.2.2.2.2.1
theorem zw_EN_mono {d d' j : Nat} {G0 : zx_G} {h0 : List zx_C} {as0 : List zx_V} {outs : List zx_Ou} (h : zw_EN l cl Ts nw sts Y aos PR rmt d j G0 h0 as0 outs) (hd : d ≤ d') : zw_EN l cl Ts nw sts Y aos PR rmt d' j G0 h0 as0 outs :=
  fun y cc maxL ret rm h1 h2 D A b ex ρ tys ws sz av h4 h5 h6 h7 h8 => zx_Met_imp (h y cc maxL ret rm h1 h2 D A b ex ρ tys ws sz av h4 h5 h6 h7 h8) ⟨hd, Nat.le_refl _, Nat.le_refl _, Nat.mul_le_mul_left _ hd⟩ (fun _ _ h => ⟨h, fun _ q => q⟩) (fun _ _ _ _ _ h _ => h)
theorem zw_mm_ok {d0 : Nat} {E : List zw_En} (hE : zw_EOK l cl Ts nw sts Y aos PR rmt d0 E) {d : Nat} (hd : d0 ≤ d) (KK : List Nat) (fl : Bool) (j : Nat) : zx_FJ l cl Ts nw sts (zw_YK Y KK fl) aos PR rmt d (zw_mm KK fl E) j := by
  refine zw_FJ_of (fun G h as os hz => ?_)
  intro y cc maxL ret rm hPR hrm D A b ex ρ tys ws sz av hG hh ha hA hIv
  have main : ∀ (E' : List zw_En), (∀ en ∈ E', en ∈ E) → zw_mmE KK fl j G h as E' = some os → Met l y (Jvm.Cond.code y cc maxL ret :: Ts) ({ frames := d, cells := rm.1, slots := rm.2, locals := 100 * d }) (zx_Pc D cl A ex sts (zw_YK Y KK fl) nw aos tys ws sz av) (zx_Qc D cl A b ex ρ ws (zw_YK Y KK fl).2.1 os) rm.1 rm.2 A := by
    intro E'
    induction E' with
    | nil => intro _ hzz; cases hzz
    | cons en t ih =>
      intro hs hzz
      rw [zw_mmE] at hzz
      split at hzz
      · rename_i hc
        simp only [Bool.and_eq_true] at hc
        obtain ⟨c1, c2, c3, c4, c6, c5⟩ := hc
        obtain ⟨d1, h1, h2⟩ := hE en (hs _ List.mem_cons_self)
        have hj := Nat.eq_of_beq_eq_true c1
        rw [hj] at h2
        cases hzz
        unfold zw_mmE.zw_mm1 at c6
        rw [Bool.and_eq_true] at c6
        refine zw_loc_ok (Y := zw_YK Y KK fl) (zw_EN_mono h2 (Nat.le_trans h1 hd)) (fun u hu => Nat.eq_of_beq_eq_true (List.all_eq_true.mp c5 u hu)) c3 c4 c2 c6.1 hPR hrm hG hh ha hA ?_
        have c7 := c6.2
        revert c7
        cases hfl : en.2.2.2.2.2.2 with
        | false => exact fun _ => trivial
        | true =>
          intro c7
          have c7 : (fl && (Nat.beq (zw_off en.2.2.2.1 as) 0 && Nat.beq en.2.2.1.length h.length)) = true := c7
          simp only [Bool.and_eq_true] at c7
          obtain ⟨j1, j2, j3⟩ := c7
          rw [Nat.eq_of_beq_eq_true j2, Nat.eq_of_beq_eq_true j3, List.drop_zero, zx_F2_len hh, List.take_length]
          have hIv : (if fl = true then Y.2.2 else fun _ => True) ws := hIv
          rw [if_pos j1] at hIv
          exact hIv
      · exact ih (fun x hx => hs x (List.mem_cons_of_mem _ hx)) hzz
  exact main E (fun _ h => h) hz
end ZWL
end
