noncomputable section
/-! zq: both tapes say the same; a call by hand, its arguments told -/
def zq_Rel (ws : va_W) : Prop := ∃ fC fR : Nat → Int32, zg_row ws 1 fC ∧ zg_row ws 219 fR ∧ ∀ k : Nat, k < 340 → zq_rel (fC k) (fR k)
theorem zq_Rel_kp {ws ws' : va_W} {K : List Nat} (h : zq_Rel ws) (kp : zx_KP (ws, K) ws') (h1 : 1 ∈ K) (h2 : 219 ∈ K) : zq_Rel ws' := by
  obtain ⟨fC, fR, r1, r2, r3⟩ := h
  exact ⟨fC, fR, zg_row_kp kp h1 r1, zg_row_kp kp h2 r2, r3⟩
theorem zq_upd_rel {f g : Nat → Int32} (h : ∀ k : Nat, k < 340 → zq_rel (f k) (g k)) {a b : Int32} (hab : zq_rel a b) (m : Nat) : ∀ k : Nat, k < 340 → zq_rel (upd f m a k) (upd g m b k) := by
  intro k hk
  by_cases hm : k = m
  · subst hm
    have e1 : upd f k a k = a := by simp [upd]
    have e2 : upd g k b k = b := by simp [upd]
    rw [e1, e2]
    exact hab
  · have e1 : upd f m a k = f k := by simp [upd, hm]
    have e2 : upd g m b k = g k := by simp [upd, hm]
    rw [e1, e2]
    exact h k hk
theorem zq_up_rel {f g : Nat → Int32} (h : ∀ k : Nat, k < 340 → zq_rel (f k) (g k)) (m : Nat) (x : Int32) : ∀ k : Nat, k < 340 → zq_rel (zq_up zq_b f m x k) (zq_up zq_r g m x k) :=
  zq_upd_rel (zq_upd_rel (zq_upd_rel (zq_upd_rel h (zq_rel_b x 24) m) (zq_rel_b x 16) (m + 1)) (zq_rel_b x 8) (m + 2)) (zq_rel_b x 0) (m + 3)
theorem zq_ev_l {ρe r r' : List Int} {k : Nat} (hk : k < ρe.length) {x x' : Int} (h : zx_ev (ρe ++ r) ([(k, 1)], 0) = some x) (h' : zx_ev (ρe ++ r') ([(k, 1)], 0) = some x') : x = x' := by
  obtain ⟨w, w1, w2⟩ := zx_ev_iff.mp h
  obtain ⟨v, u, k1, k2, k3⟩ := zx_evl_cons.mp w1
  obtain ⟨w', w3, w4⟩ := zx_ev_iff.mp h'
  obtain ⟨v', u', k4, k5, k6⟩ := zx_evl_cons.mp w3
  have k1 : (ρe ++ r)[k]? = some v := k1
  have k4 : (ρe ++ r')[k]? = some v' := k4
  rw [List.getElem?_append_left hk] at k1 k4
  rw [k1] at k4
  cases k4
  cases k2
  cases k5
  have w2 : x = w + 0 := w2
  have w4 : x' = w' + 0 := w4
  omega
def zgL_ca4 (o o2 : Nat) (KK Kr : List Nat) (f : zx_Fn) (md : zx_MD) (m : Nat) (dC : List (Nat × (Int × Int))) (nds : List zg_Nd) (pc ix : Nat) (en : zw_En) (T : zx_T) : Bool := match zgL_cl o KK md.2.1 md.2.2.1 ix en T.1 T.2.1 T.2.2.2.2 T.2.2.2.1 with
  | some z => z.1.all (fun u => Nat.beq u.2.1.length T.2.1.length && zg_o4 T.1.length (fun G1 => dC.all (zg_dr G1 (T.2.1.drop o2) (u.2.1.drop o2)) && zgL_rk o2 u.2.1 Kr f md m nds (pc + 3) (G1, u.2.1, T.2.2.1, u.2.2.toList ++ z.2.2.1, z.2.2.2)) u.1)
  | none => false
def zgL_as (o : Nat) (KK : List Nat) (md : zx_MD) (ix : Nat) (en : zw_En) (T : zx_T) : List zx_V := match zgL_cl o KK md.2.1 md.2.2.1 ix en T.1 T.2.1 T.2.2.2.2 T.2.2.2.1 with
  | some z => z.2.1
  | none => []
section ZQJ
variable {p : Program} {l : Launch} {e : Env} {R : Room} {s : State} {m : MethodId} {args : Array Value} {below : List Frame} {meth : Method} {c : Code} {Q : State → Prop} {D : va_G} {A : Nat → Prop} {b : Nat} {ex : List Nat} {ad0 : zx_A0} {nL : Nat} {own : String} {cc : ByteArray} {Kr : List Nat} {d : Nat} {md : zx_MD} {pc : Nat} {ws : va_W}
theorem zgL_call4 (C : zgL_cx p R s m args meth c A ex nL own cc Kr d md) {f : zx_Fn} (hf : zx_FOK l vwCl zx_Ts zx_nw zx_sts (zw_YK zx_Yt Kr false) zx_aos zx_PRt zx_rmt d f) {xs : Nat → Int32} {o o2 ix mm : Nat} {KK : List Nat} (hK : ∀ i ∈ ad0.2, i ∈ KK) (hK2 : ∀ i ∈ ad0.2, i ∈ Kr) {en : zw_En} {X : List Value → va_W → Prop} {Z : List Value → va_W → Option Value → va_W → Prop} {T : zx_T} {dC : List (Nat × (Int × Int))} {nds : List zg_Nd} {ρe r : List Int} (hm : ρe.length = mm) (hS : ∀ r, zx_SX b xs A s md.2.1 (ρe ++ r)) (hen : zg_EN l d en X Z) (hd : (pc, Instr.invokevirtual ix, 3) ∈ md.1) (hck : zgL_ca4 o o2 KK Kr f md mm dC nds pc ix en T = true) (hlen : o + en.2.2.1.length ≤ T.2.1.length)
    (KE : ∀ (u : zx_Ou) (r : List Int) (ws' : va_W), zgL_is1 u = true → zg_ed p l e R s m args below meth c Q D A b ex ad0 nL cc md.2.2.2 (zx_mR md.2.1) u (ρe ++ r) ws')
    (hX : ∀ av, zx_F2 (zx_R b ex (ρe ++ r) (zx_as ws)) (zgL_as o KK md ix en T) av → X av (zgL_bk o en.2.2.1.length ws))
    (hC : ∀ (av : List Value) (v : Option Value) (ws1 : va_W), zx_F2 (zx_R b ex (ρe ++ r) (zx_as ws)) (zgL_as o KK md ix en T) av → zx_KP (ws, KK) ws1 → Z av (zgL_bk o en.2.2.1.length ws) v (zgL_bk o en.2.2.1.length ws1) → zg_fs (ws.drop o2) (ws1.drop o2) dC → ∀ t ∈ nds, ∀ (r' : List Int) (ws' : va_W), zx_KP (ws1, Kr) ws' → zg_fs (ws1.drop o2) (ws'.drop o2) t.2.2.1 → zg_os (ρe ++ r) (ρe ++ r') t.2.2.2 → zg_go p l e R s m args below meth c Q D A b ex ad0 nL t.1 t.2.1 (ρe ++ r') ws') : zg_go p l e R s m args below meth c Q D A b ex ad0 nL pc T (ρe ++ r) ws := by
  unfold zgL_as at hX hC
  unfold zgL_ca4 at hck
  split at hck
  case h_2 => cases hck
  rename_i z hz
  rw [hz] at hX hC
  obtain ⟨os, as', rk, k'⟩ := z
  refine zg_with (fun tysA hGA hhA => ?_)
  refine zgL_call C hK hen hd hz (fun av ha => hX av ha) (fun u hu av v r2 ws1 ha kp hv hZ => ?_)
  obtain ⟨ws2, e1, hZ⟩ := hZ
  have h0 := List.all_eq_true.mp hck u hu
  rw [Bool.and_eq_true] at h0
  have hul : u.2.1.length = T.2.1.length := Nat.eq_of_beq_eq_true h0.1
  refine zg_pcn (n0 := T.1.length) (fun G1 hG1 => ?_)
  have h1 := zg_o4_ok h0.2 hG1
  have h1 : (dC.all (zg_dr G1 (T.2.1.drop o2) (u.2.1.drop o2)) && zgL_rk o2 u.2.1 Kr f md mm nds (pc + 3) (G1, u.2.1, T.2.2.1, u.2.2.toList ++ rk, k')) = true := h1
  rw [Bool.and_eq_true] at h1
  refine zg_with (fun tysB hGB hhB => ?_)
  have hl1 := zx_F2_len hhA
  have hl2 : u.2.1.length = ws1.length := zx_F2_len hhB
  have hZ2 : Z av (zgL_bk o en.2.2.1.length ws) v (zgL_bk o en.2.2.1.length ws1) := by
    have h9 : zgL_bk o en.2.2.1.length ws1 = ws2 := by
      rw [e1]
      refine zgL_be_bk (by omega) ?_
      rw [← e1]
      omega
    rw [h9]
    exact hZ
  have hd1 := zgL_dr_ok hGB (zgL_drop o2 hhA) (zgL_drop o2 hhB) h1.1
  rw [List.append_assoc] at hhB ⊢
  refine zgL_run3 (o := o2) (xs := xs) C hK2 hf hm hS hhB h1.2 KE (fun t ht r' ws' kp' hfs hos => ?_)
  exact hC av v ws1 ha kp hZ2 hd1 t ht r' ws' kp' hfs (fun x hx w hw => hos x hx w (by rw [← List.append_assoc]; exact zx_ev_app hw))
end ZQJ
/-- a place of a row of objects: one of them -/
def zq_pr (T : zx_T) (i : Nat) (e : zx_L) (d : Nat) : zx_T := match T.2.1[i]? with
  | some (.inr (.inl (tg, n, true, t :: _))) => (T.1, T.2.1.set i (.inr (.inl (tg, n, true, [t, .inl (.inl e), .inl (.inr (.inl ([d], false)))]))), T.2.2)
  | _ => T
section ZQK
variable {p : Program} {l : Launch} {e : Env} {R : Room} {s : State} {mi : MethodId} {args : Array Value} {below : List Frame} {meth : Method} {c : Code} {Q : State → Prop} {D : va_G} {A : Nat → Prop} {b : Nat} {ex : List Nat} {ad0 : zx_A0} {nL : Nat}
theorem zq_addr {pc i n tg : Nat} {T : zx_T} {ρ : List Int} {ws : va_W} {ids : List Nat} {x : zx_L} (hT : T.2.1[i]? = some (.inr (.inl (tg, n, true, [.inl (.inr (.inl (ids, false)))])))) (htg : 3 ≤ tg) (hx : ∃ w : Nat, zx_ev ρ x = some (w : Int) ∧ w < n) (hgo : ∀ d ∈ ids, zg_go p l e R s mi args below meth c Q D A b ex ad0 nL pc (zq_pr T i x d) ρ ws) : zg_go p l e R s mi args below meth c Q D A b ex ad0 nL pc T ρ ws := by
  intro H locs ls kc tys lc hG B
  unfold zq_pr at hgo
  rw [hT] at hgo
  obtain ⟨b1, b2, b3, b4, b5, b6, b7, b8⟩ := B
  obtain ⟨w, hw1, hw2⟩ := hx
  obtain ⟨⟨a, q⟩, h1, cB, t0, h2, h3⟩ := zx_F2_get b5 hT
  rcases h3 with ⟨h3, -⟩ | ⟨h3, g, h4, h8⟩
  · have h3 : tg < 3 := h3
    omega
  have h4 : q = .inl (cB, n, .inr (.inr (.inr (.inr g)))) := h4
  subst h4
  obtain ⟨t', fs', k1, k2, k3⟩ := h8
  cases k1
  have k4 : zx_R b ex ρ (zx_as ws) (.inr (.inl (ids, false))) (va_rf (g w)) := k2 w hw2
  rcases k4 with ⟨k4, -⟩ | ⟨d, a1, k5, k6, k7⟩
  · cases k4
  refine hgo d k5 H locs ls kc tys lc hG ⟨b1, b2, b3, b4, ?_, b6, b7, b8⟩
  have h6 : ws.set i (a, .inl (cB, n, .inr (.inr (.inr (.inr g))))) = ws := by
    obtain ⟨hl, hq⟩ := List.getElem?_eq_some_iff.mp h1
    rw [← hq, List.set_getElem_self]
  have hab : zx_RC vwCl b ex ρ (zx_as ws) tys (.inr (.inl (tg, n, true, [.inl (.inr (.inl (ids, false))), .inl (.inl x), .inl (.inr (.inl ([d], false)))]))) (.inl (cB, n, .inr (.inr (.inr (.inr g))))) := by
    refine ⟨cB, t0, h2, Or.inr ⟨h3, g, rfl, _, _, rfl, k2, fun y hy => ?_⟩⟩
    have hy : y ∈ [(x, (Sum.inr (Sum.inl ([d], false)) : zx_V))] := hy
    rw [List.mem_singleton] at hy
    subst hy
    refine ⟨(w : Int), hw1, by omega, (by show (w : Int) < (n : Int); omega), ?_⟩
    have e1 : ((w : Int)).toNat = w := by omega
    rw [e1]
    exact Or.inr ⟨d, a1, List.mem_singleton.mpr rfl, k6, k7⟩
  have h9 := zx_F2_set (a := (.inr (.inl (tg, n, true, [.inl (.inr (.inl (ids, false))), .inl (.inl x), .inl (.inr (.inl ([d], false)))])) : zx_C)) (b := (a, Sum.inl (cB, n, .inr (.inr (.inr (.inr g)))))) hab i b5
  rw [h6] at h9
  exact h9
end ZQK
end
