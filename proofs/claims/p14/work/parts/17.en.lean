noncomputable section
/-! zw: a method's contract from a state with unknowns; its use at a call -/
def zw_EN (l : Launch) (cl : List vw_C) (Ts nw : List Jvm.Cond) (sts : List (String × String × String × Nat)) (Y : zx_Y) (aos : List String) (PR : zx_PR) (rmt : List (Nat × Nat)) (d j : Nat) (G : zx_G) (h : List zx_C) (as : List zx_V) (outs : List zx_Ou) : Prop :=
  ∀ (y : MethodName) (cc : ByteArray) (maxL : Nat) (ret : Option FieldType) (rm : Nat × Nat), PR[j]? = some (y, cc, maxL, ret) → rmt[j]? = some rm →
  ∀ (D : va_G) (A : Nat → Prop) (b : Nat) (ex : List Nat) (ρ : List Int) (tys : List (ClassId × FieldType)) (ws : va_W) (sz : Nat) (av : List Value), zx_ok ρ G → zx_F2 (fun c q => zx_RC cl b ex ρ (zx_as ws) tys c q.2) h ws → zx_F2 (zx_R b ex ρ (zx_as ws)) as av → (∀ q, sz ≤ q → A q) → Y.2.2 ws →
  Met l y (Jvm.Cond.code y cc maxL ret :: Ts) ({ frames := d, cells := rm.1, slots := rm.2, locals := 100 * d }) (zx_Pc D cl A ex sts Y nw aos tys ws sz av) (zx_Qc D cl A b ex ρ ws Y.2.1 outs) rm.1 rm.2 A
section ZWE
variable {l : Launch} {cl : List vw_C} {Ts nw : List Jvm.Cond} {sts : List (String × String × String × Nat)} {Y : zx_Y} {aos : List String} {PR : zx_PR} {rmt : List (Nat × Nat)}
theorem zw_FJ_of {d j : Nat} {f : zx_Fn} (h : ∀ G hp as os, f j G hp as = some os → zw_EN l cl Ts nw sts Y aos PR rmt d j G hp as os) : zx_FJ l cl Ts nw sts Y aos PR rmt d f j :=
  fun y cc maxL ret rm h1 h2 G hp as os h3 => h G hp as os h3 y cc maxL ret rm h1 h2
def zw_en (Y : zx_Y) (dt : List (List Nat)) (rmt : List (Nat × Nat)) (md : zx_MD) (f : zx_Fn) (n : Nat) (hd : zw_Hd) (G0 : zx_G) (h0 : List zx_C) (as0 : List zx_V) (outs : List zx_Ou) : Bool := Nat.ble (zx_cats as0) (zx_mV md.2.1) && (match zx_ex Y dt rmt (zw_stp hd) md f n md.1 G0 h0 (zx_args 0 as0) (0, 0) [] with
    | some os => zw_ck G0.length hd outs none os
    | none => false)
theorem zw_en_ok (hYI : zx_YI Y) {dt : List (List Nat)} {P : List (Option zx_MD)} {n d : Nat} {f : zx_Fn} (hPK : zx_PK cl Ts nw sts aos PR rmt P) (hCK : zx_CK cl Ts dt) (harr : ∀ ty ∈ [FieldType.int, FieldType.byte, FieldType.boolean, FieldType.long], Jvm.Cond.arrayClass ty ∈ Ts) (hgw : Ts.all goodWord = true) (hnk : nw.all zx_nk = true) (ih : zx_FOK l cl Ts nw sts Y aos PR rmt d f) {j : Nat} {md : zx_MD} (hP : P[j]? = some (some md)) {hd : zw_Hd} {G0 : zx_G} {h0 : List zx_C} {as0 : List zx_V} {outs : List zx_Ou} (he : zw_en Y dt rmt md f n hd G0 h0 as0 outs = true) (hall : ∀ t ∈ hd, zw_ho Y dt rmt md f n G0.length hd outs t = true) : zw_EN l cl Ts nw sts Y aos PR rmt (d + 1) j G0 h0 as0 outs := by
  intro y cc maxL ret rm hPR hrm D A b ex ρ tys ws sz av hG hh ha hA hIv
  have hYO := zx_YO_of hYI hIv
  unfold zw_en at he
  rw [Bool.and_eq_true] at he
  obtain ⟨hcats, he⟩ := he
  have hcats := Nat.le_of_ble_eq_true hcats
  split at he
  case h_2 => cases he
  rename_i lo hlo
  obtain ⟨k1, k2, k3, k4, k5, k6, k7, k8, k9, x, nx, k10, k11⟩ := hPK j md y cc maxL ret rm hP hPR hrm
  refine Met.ofW (cc := cc) (maxL := maxL) (ret := ret) k1 rfl ?_
  intro p e s m args below meth c s₁ B hml hv
  obtain ⟨rfl, hsz, hP, hK, hD, hCX, hnw, hao⟩ := hv
  have hx := B.exec
  have hb := B.bytes
  have hr := B.returns
  have hts0 := atoms_spec (ws := Jvm.Cond.code y cc maxL ret :: Ts) B.pre
  have hts : ∀ w ∈ Ts, w.before av.toArray s = true := fun w hw => hts0 w (List.mem_cons_of_mem _ hw)
  have hown : s.vm.findClass y.cls = some m.cls := findClass_of_methodNamed B.named
  have hlocks := B.notSynchronized
  have hin : meth.name = y.name := (name_of_methodNamed B.named B.method).1
  have hA' : ∀ q, s.heap.size ≤ q → A q := fun q hq => hA q (by rw [← hsz]; exact hq)
  have F : zx_FX p s m av.toArray meth c ({ frames := d + 1, cells := rm.1, slots := rm.2, locals := 100 * (d + 1) } : Room) cc y.cls Ts nw cl A ex maxL sts Y aos dt md.2.1 :=
    ⟨hx, hb, hown, hts, hnw, hA', ⟨by rw [k2], by rw [k2]⟩, fun q => by rw [hin]; exact k5 q, k3, hCX, hao, hCK, k6⟩
  have hl := lv_entry av (n := maxL) (by rw [zx_words ha, ← k3]; exact hcats)
  rw [lg_entry_eq]
  generalize (lg_sl av ++ List.replicate (maxL - (lg_sl av).length) Slot.unset).toArray = ls at hl ⊢
  have J : zx_J D cl A b ex (ws, Y.2.1) maxL s ρ G0 h0 (zx_args 0 as0) [] s.heap [] ls [] :=
    ⟨hG, tys, ws, lv_args 0 av, hK, hP, hD, ⟨va_S.rf, zx_KP_rf ws Y.2.1⟩, hh, zx_args_ok 0 ha, hl, trivial⟩
  rw [k10] at hlo
  have gol : W p l e ({ frames := d + 1, cells := rm.1, slots := rm.2, locals := 100 * (d + 1) } : Room) s m av.toArray below meth c s.heap [] 0 0 (MQ below (zx_Qc D cl A b ex ρ ws Y.2.1 outs) av.toArray s rm.1 rm.2 A) (F0 m x.1 ls []) → W p l e (headSpec (Jvm.Cond.code y cc maxL ret :: Ts) ({ frames := d + 1, cells := rm.1, slots := rm.2, locals := 100 * (d + 1) } : Room)).room s m av.toArray below meth c s.heap [] 0 0 (MQ below (zx_Qc D cl A b ex ρ ws Y.2.1 outs) av.toArray s rm.1 rm.2 A) (F0 m 0 ls []) := by
    intro g; rw [k11] at g; exact g
  refine gol ?_
  have KE : zw_KE p l e ({ frames := d + 1, cells := rm.1, slots := rm.2, locals := 100 * (d + 1) } : Room) s m av.toArray below meth c (MQ below (zx_Qc D cl A b ex ρ ws Y.2.1 outs) av.toArray s rm.1 rm.2 A) D cl A b ex (ws, Y.2.1) cc md.2.2.2 (zx_mR md.2.1) ρ outs := by
    intro o o0 ρ1 r' ho0 H' locs' ls' kc' pc' k' ir tys' ws' g1 g2 g3 g4 g5 g6 g8 g9 g10 g11 q1 q2 q3
    rw [k2] at g8 g9
    refine W.widen (k := rm.1) (n := rm.2) g8 g9 ?_
    have fin : ∀ (v : Option Value), zx_rv b ex ρ1 (zx_as ws') o.2.2 v → ∀ t : State, t.heap = H' → s.WarmedH t.vm → zx_Qc D cl A b ex ρ ws Y.2.1 outs av.toArray s (.returned v) t := by
      intro v hv t ht hW
      exact ⟨⟨o0, ho0, v, r', tys', ws', rfl, q1, va_K.moved hW.alike g2, by rw [ht]; exact g3, g4, g6, q2, q3 v hv⟩, g5.F ht⟩
    rcases g11 with ⟨rfl, e1, rfl, e2⟩ | ⟨rfl, e1, w, e2, rfl, e3, e4⟩ | ⟨rfl, q, x1, e2, rfl, e3, e4⟩ | ⟨rfl, w, e2, rfl, e4⟩
    · have hrn : ret = none := by
        cases ret with
        | none => rfl
        | some ty => exact absurd e2 k9.2.1
      subst hrn
      exact W.vret hx hb hr (fin none (by rw [e1]; exact trivial)) g5.2.2 g10
    · cases ret with
      | none =>
        have k9 : md.2.2.2 = 4 := k9
        rw [k9] at e4
        exact (zx_fit4 e4).elim
      | some ty =>
        have hx1 : zx_R b ex ρ1 (zx_as ws') (.inl e1) (.int w) := ⟨w, rfl, e3⟩
        have hn := (zx_fit_ok (ty := ty) g1 (by rw [k9.1]; exact e4) hx1).1
        exact W.zret hx hb hr hn (fin (some (.int w)) (by rw [e2]; exact hx1)) g5.2.2 g10
    · cases ret with
      | none =>
        have k9 : md.2.2.2 = 4 := k9
        rw [k9] at e4; cases e4
      | some ty =>
        have hty : (∃ n, ty = .object n) ∨ ∃ t, ty = .array t := by
          have h9 := k9.1
          rw [e4] at h9
          cases ty <;> first | exact Or.inl ⟨_, rfl⟩ | exact Or.inr ⟨_, rfl⟩ | cases h9
        have hvx : x1 = .null ∨ ∃ a, x1 = .ref a := by
          rcases e3 with ⟨-, h1⟩ | ⟨i, a, -, -, h1⟩
          · exact Or.inl h1
          · exact Or.inr ⟨a, h1⟩
        exact W.aret hx hb hr hty hvx (fin (some x1) (by rw [e2]; exact e3)) g5.2.2 g10
    · cases ret with
      | none =>
        have k9 : md.2.2.2 = 4 := k9
        rw [k9] at e4; cases e4
      | some ty =>
        have hty : ty = .long := by
          have h9 := k9.1
          rw [e4] at h9
          cases ty <;> first | rfl | cases h9
        subst hty
        exact W.lret hx hb hr (fin (some (.long w)) (by rw [e2]; exact ⟨w, rfl⟩)) g5.2.2 g10
  have hS0 : ∀ r : List Int, zx_SX b (fun _ => 0) A s md.2.1 (ρ ++ r) := fun r q => by rw [k4] at q; cases q
  have hX : zx_mX md.2.1 = true → 8 ≤ ρ.length := fun q => by rw [k4] at q; cases q
  refine zx_ex_ok (xs := fun _ => 0) (md := md) (f := f) hYO F harr ih k7 hgw hnk ⟨Nat.le_refl _, Nat.le_refl _⟩ hml k8 n x nx ρ G0 h0 (zx_args 0 as0) (0, 0) [] lo s.heap [] ls [] (by have := hS0 []; rwa [List.append_nil] at this) (fun y hy => by rw [k10]; exact hy) J hlo ⟨?_, ?_⟩
  · intro o ho r2 H' locs' ls' kc' pc' k' ir tys' ws' g1 g2 g3 g4 g5 g6 g7 g8 g9 g10 g11
    exact zw_end_ok hG.1 KE (zw_ck_l he ho) g1 g2 g3 g4 g5 g6 g7 g8 g9 g10 g11
  · intro q hq r2 H' locs' ls' kc' J'
    obtain ⟨t2, σ, c1, c2, -⟩ := zw_ck_r he hq
    obtain ⟨r', c3, c4, c5⟩ := zw_T_ok hG.1 c2 J'
    unfold zx_le2 at c5
    rw [Bool.and_eq_true] at c5
    refine W.widen (k := t2.1.2.2.2.2.1) (n := t2.1.2.2.2.2.2) (Nat.le_of_ble_eq_true c5.1) (Nat.le_of_ble_eq_true c5.2) ?_
    cases hv : zx_ev (ρ ++ r') t2.2 with
    | none =>
      exact zw_heads_ok (xs := fun _ => 0) hYO F harr ih k7 hgw hnk ⟨Nat.le_refl _, Nat.le_refl _⟩ hml k8 hG.1 hX hall KE 0 (q.1, t2) r' H' locs' ls' kc' c1 (hS0 r') c4 (fun v h => by rw [hv] at h; cases h)
    | some v =>
      exact zw_heads_ok (xs := fun _ => 0) hYO F harr ih k7 hgw hnk ⟨Nat.le_refl _, Nat.le_refl _⟩ hml k8 hG.1 hX hall KE (v.toNat + 1) (q.1, t2) r' H' locs' ls' kc' c1 (hS0 r') c4 (fun v' h => by rw [hv] at h; cases h; omega)
end ZWE
/-! back to where the cells stand -/
def zw_bI (o : Nat) : List Nat → List Nat
  | [] => []
  | i :: r => (if i < 64 then i else i + o) :: zw_bI o r
def zw_bV (o : Nat) (σ : List zx_L) (v : zx_V) : zx_V := match v with
  | .inr (.inl r) => .inr (.inl (zw_bI o r.1, r.2))
  | .inl e => .inl ((zw_sub σ e).getD ([], 0))
  | .inr (.inr k) => .inr (.inr k)
def zw_bS (o : Nat) (σ : List zx_L) (t : zx_S) : zx_S := match t with
  | .inl v => .inl (zw_bV o σ v)
  | .inr q => .inr q
def zw_bC (o : Nat) (σ : List zx_L) (c : zx_C) : zx_C := match c with
  | .inl a => .inl (a.1, a.2.map (zw_bS o σ))
  | .inr (.inl a) => .inr (.inl (a.1, a.2.1, a.2.2.1, a.2.2.2.map (zw_bS o σ)))
  | .inr (.inr k) => .inr (.inr k)
theorem zw_sb_tot {ρ ρ0 : List Int} {σ : List zx_L} (hσ : zw_sig ρ σ ρ0) : ∀ {l : List (Nat × Int)} {w : Int}, zx_evl ρ0 l = some w → ∃ f, zw_sb σ l = some f
  | [], w, _ => ⟨_, rfl⟩
  | q :: r, w, h => by
    obtain ⟨v, u, h1, h2, -⟩ := zx_evl_cons.mp h
    obtain ⟨f, hf⟩ := zw_sb_tot hσ h2
    have hl : q.1 < σ.length := by rw [zx_F2_len hσ]; exact (List.getElem?_eq_some_iff.mp h1).1
    rw [zw_sb, zy_get_eq, List.getElem?_eq_getElem hl, hf]
    exact ⟨_, rfl⟩
theorem zw_sub_tot {ρ ρ0 : List Int} {σ : List zx_L} (hσ : zw_sig ρ σ ρ0) {e : zx_L} {w : Int} (h : zx_ev ρ0 e = some w) : zx_ev ρ ((zw_sub σ e).getD ([], 0)) = some w := by
  obtain ⟨u, h1, h2⟩ := zx_ev_iff.mp h
  obtain ⟨f, hf⟩ := zw_sb_tot hσ h1
  have hs : zw_sub σ e = some (f.1, f.2 + e.2) := by rw [zw_sub, hf]
  obtain ⟨v, h3, h4⟩ := zw_sub_ok hσ hs
  rw [hs]
  rw [h] at h3
  cases h3
  exact h4
section ZWB
variable {cl : List vw_C} {b : Nat} {ex : List Nat} {ρ ρ0 : List Int} {ad ad0 : List Nat} {o : Nat} {σ : List zx_L}
theorem zw_bI_mem {i : Nat} : ∀ {r : List Nat}, i ∈ r → (if i < 64 then i else i + o) ∈ zw_bI o r
  | [], h => nomatch h
  | k :: r, h => by
    rw [zw_bI]
    rcases List.mem_cons.mp h with e | e
    · subst e; exact List.mem_cons_self
    · exact List.mem_cons_of_mem _ (zw_bI_mem e)
theorem zw_bV_ok (hσ : zw_sig ρ σ ρ0) (had : ∀ (i : Nat) (a : Nat), ad0[i]? = some a → ad[i + o]? = some a) {v : zx_V} {x : Value} (hx : zx_R b ex ρ0 ad0 v x) : zx_R b ex ρ ad (zw_bV o σ v) x := by
  rcases v with e | r | k
  · obtain ⟨w, h1, h2⟩ := hx
    exact ⟨w, h1, zw_sub_tot hσ h2⟩
  · rcases hx with h | ⟨i, a, h1, h2, h3⟩
    · exact Or.inl h
    · refine Or.inr ⟨_, a, zw_bI_mem (o := o) h1, ?_, h3⟩
      rw [zx_ad] at h2 ⊢
      by_cases hi : i < 64
      · rw [if_pos hi] at h2
        simp only [if_pos hi]
        exact h2
      · rw [if_neg hi] at h2
        simp only [if_neg hi]
        rw [if_neg (by omega)]
        have := had _ _ h2
        rw [← this]; congr 1; omega
  · cases k
    · exact hx
    · exact hx
theorem zw_bS_ok (hσ : zw_sig ρ σ ρ0) (had : ∀ (i : Nat) (a : Nat), ad0[i]? = some a → ad[i + o]? = some a) {t : zx_S} {x : Value} (hx : zx_RS b ex ρ0 ad0 t x) : zx_RS b ex ρ ad (zw_bS o σ t) x := by
  rcases t with v | q
  · exact zw_bV_ok (v := v) hσ had hx
  · exact hx
theorem zw_F2_map {α α' β : Type} {R : α → β → Prop} {S : α' → β → Prop} {f : α → α'} (hf : ∀ a b, R a b → S (f a) b) : ∀ {l : List α} {m : List β}, zx_F2 R l m → zx_F2 S (l.map f) m
  | [], [], _ => trivial
  | _ :: _, _ :: _, h => ⟨hf _ _ h.1, zw_F2_map hf h.2⟩
  | [], _ :: _, h => h.elim
  | _ :: _, [], h => h.elim
theorem zw_bfs_ok (hσ : zw_sig ρ σ ρ0) (had : ∀ (i : Nat) (a : Nat), ad0[i]? = some a → ad[i + o]? = some a) {k : Nat} {el : Nat → Value} : ∀ {fs : List zx_S}, (∀ q ∈ zx_fs fs, zx_FP b ex ρ0 ad0 k el q) → ∀ q ∈ zx_fs (fs.map (zw_bS o σ)), zx_FP b ex ρ ad k el q
  | .inl (.inl e) :: .inl v :: r, h, q, hq => by
    have hq : q ∈ ((zw_sub σ e).getD ([], 0), zw_bV o σ v) :: zx_fs (r.map (zw_bS o σ)) := hq
    have h : ∀ q ∈ (e, v) :: zx_fs r, zx_FP b ex ρ0 ad0 k el q := h
    rcases List.mem_cons.mp hq with g | g
    · subst g
      obtain ⟨w, k1, k2, k3, k4⟩ := h _ List.mem_cons_self
      exact ⟨w, zw_sub_tot hσ k1, k2, k3, zw_bV_ok hσ had k4⟩
    · exact zw_bfs_ok hσ had (fun x hx => h x (List.mem_cons_of_mem _ hx)) q g
  | [], _, q, hq => nomatch hq
  | [.inl (.inl e)], _, q, hq => nomatch hq
  | .inl (.inl e) :: .inr t :: r, _, q, hq => nomatch hq
  | .inl (.inr (.inl t)) :: r, _, q, hq => nomatch hq
  | .inl (.inr (.inr t)) :: r, _, q, hq => nomatch hq
  | .inr t :: r, _, q, hq => nomatch hq
theorem zw_bRA_ok (hσ : zw_sig ρ σ ρ0) (had : ∀ (i : Nat) (a : Nat), ad0[i]? = some a → ad[i + o]? = some a) {k : Nat} {sm : Bool} {l : List zx_S} {el : Nat → Value} (hx : zx_RA b ex ρ0 ad0 k sm l el) : zx_RA b ex ρ ad k sm (l.map (zw_bS o σ)) el := by
  cases sm with
  | true =>
    obtain ⟨t, fs, rfl, h2, h3⟩ := hx
    refine ⟨_, _, rfl, fun j hj => zw_bS_ok hσ had (h2 j hj), zw_bfs_ok hσ had h3⟩
  | false =>
    refine ⟨by rw [List.length_map]; exact hx.1, fun j t hj => ?_⟩
    rw [List.getElem?_map] at hj
    obtain ⟨t', h1, rfl⟩ := Option.map_eq_some_iff.mp hj
    exact zw_bS_ok hσ had (hx.2 j t' h1)
theorem zw_bC_ok (hσ : zw_sig ρ σ ρ0) (had : ∀ (i : Nat) (a : Nat), ad0[i]? = some a → ad[i + o]? = some a) {tys tys' : List (ClassId × FieldType)} (ht : ∀ (i : Nat) (q : ClassId × FieldType), tys[i]? = some q → ∃ k : Nat, tys'[k]? = some q) {c : zx_C} {e : va_E} (hx : zx_RC cl b ex ρ0 ad0 tys c e) : zx_RC cl b ex ρ ad tys' (zw_bC o σ c) e := by
  rcases c with a | q | k
  · obtain ⟨fs, h1, h2⟩ := hx
    exact ⟨fs, h1, zw_F2_map (R := zx_RS b ex ρ0 ad0) (S := zx_RS b ex ρ ad) (f := zw_bS o σ) (fun _ _ hq => zw_bS_ok hσ had hq) h2⟩
  · obtain ⟨cA, t0, h1, h2⟩ := hx
    obtain ⟨t1, h1⟩ := ht _ _ h1
    refine ⟨cA, t1, h1, ?_⟩
    rcases h2 with ⟨h2, f, h3, h4⟩ | ⟨h2, f, h3, h4⟩
    · exact Or.inl ⟨h2, f, h3, zw_bRA_ok hσ had h4⟩
    · exact Or.inr ⟨h2, f, h3, zw_bRA_ok hσ had h4⟩
  · obtain ⟨cA, t0, f, h1, h2⟩ := hx
    obtain ⟨t1, h1⟩ := ht _ _ h1
    exact ⟨cA, t1, f, h1, h2⟩
end ZWB
end
