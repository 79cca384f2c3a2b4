noncomputable section
/-! zq: methods with more marks -/
def zq_N (ks : List Nat) (n : Nat → Option (Bool × Int × Int)) (k : Nat) : Option (Bool × Int × Int) := if ks.contains k = true ∧ k < 500000 then some (true, 0, 0) else n k
def zq_M (ks : List Nat) (M : zx_M) : zx_M := (M.1, M.2.1, M.2.2.1, M.2.2.2.1, M.2.2.2.2.1, zq_N ks M.2.2.2.2.2.1, M.2.2.2.2.2.2)
def zq_md (ks : List Nat) (md : zx_MD) : zx_MD := (md.1, zq_M ks md.2.1, md.2.2)
theorem zq_MK {ks : List Nat} {own : String} {M : zx_M} (h : zx_MK own vwCl zx_Ts zx_nw zx_sts zx_aos M) : zx_MK own vwCl zx_Ts zx_nw zx_sts zx_aos (zq_M ks M) := by
  obtain ⟨h1, h2, h3, h4, h5, h6⟩ := h
  refine ⟨h1, h2, h3, h4, h5, fun ix f key k e => h6 ix f key k ?_⟩
  have e : zq_N ks (zx_mN M) (500000 + ix) = some (f, key, k) := e
  unfold zq_N at e
  rw [if_neg (by omega)] at e
  exact e
theorem zq_PK_set {P : List (Option zx_MD)} (h : zx_PK vwCl zx_Ts zx_nw zx_sts zx_aos zx_PRt zx_rmt P) {j0 : Nat} {md0 : zx_MD} (hj : P[j0]? = some (some md0)) (ks : List Nat) : zx_PK vwCl zx_Ts zx_nw zx_sts zx_aos zx_PRt zx_rmt (P.set j0 (some (zq_md ks md0))) := by
  intro j md y cc maxL ret rm h1 h2 h3
  by_cases e : j0 = j
  · subst e
    rw [List.getElem?_set] at h1
    simp only [if_true] at h1
    split at h1
    · have h1 : zq_md ks md0 = md := Option.some.inj (Option.some.inj h1)
      subst h1
      obtain ⟨k1, k2, k3, k4, k5, k6, k7, k8, k9, k10⟩ := h j0 md0 y cc maxL ret rm hj h2 h3
      exact ⟨k1, k2, k3, k4, k5, zq_MK k6, k7, k8, k9, k10⟩
    · cases h1
  · rw [List.getElem?_set_ne e] at h1
    exact h j md y cc maxL ret rm h1 h2 h3
/-- a method of theirs is entered -/
theorem zq_enter {l : Launch} {P : List (Option zx_MD)} (hPK : zx_PK vwCl zx_Ts zx_nw zx_sts zx_aos zx_PRt zx_rmt P) {d : Nat} {en : zw_En} {X : List Value → va_W → Prop} {Z : List Value → va_W → Option Value → va_W → Prop} {Kr : List Nat} {md : zx_MD} (hP : P[en.1]? = some (some md)) (hcats : zx_cats en.2.2.2.1 ≤ zx_mV md.2.1)
    (hcont : ∀ (p : Program) (e : Env) (R : Room) (s : State) (mi : MethodId) (args : Array Value) (below : List Frame) (meth : Method) (c : Code) (Q : State → Prop) (D : va_G) (A : Nat → Prop) (b : Nat) (ex : List Nat) (nL : Nat) (own : String) (cc : ByteArray) (ρ : List Int) (tys : List (ClassId × FieldType)) (ws : va_W) (av : List Value), X av ws → zx_ok ρ en.2.1 → zx_F2 (fun c q => zx_RC vwCl b ex ρ (zx_as ws) tys c q.2) en.2.2.1 ws → zx_F2 (zx_R b ex ρ (zx_as ws)) en.2.2.2.1 av → zg_cx p R s mi args meth c A b ex nL own cc Kr d md → (∀ (o : zx_Ou) (r : List Int) (ws' : va_W), zw_E en.2.1.length o en.2.2.2.2.1 = true → (∀ v, zx_rv b ex (ρ ++ r) (zx_as ws') o.2.2 v → Z av ws v ws') → zg_ed p l e R s mi args below meth c Q D A b ex (ws, en.2.2.2.2.2.1) nL cc md.2.2.2 (zx_mR md.2.1) o (ρ ++ r) ws') → zg_go p l e R s mi args below meth c Q D A b ex (ws, en.2.2.2.2.2.1) nL 0 (en.2.1, en.2.2.1, zx_args 0 en.2.2.2.1, [], 0, 0) ρ ws) : zg_EN l (d + 1) en X Z := by
  intro y cc maxL ret rm hPR hrm D A b ex ρ tys ws sz av hG hh ha hA hX
  obtain ⟨k1, k2, k3, k4, k5, k6, k7, k8, k9, x, nx, k10, k11⟩ := hPK en.1 md y cc maxL ret rm hP hPR hrm
  refine Met.ofW (cc := cc) (maxL := maxL) (ret := ret) k1 rfl ?_
  intro p e s m args below meth c s₁ B hml hv
  obtain ⟨rfl, hsz, hP, hK, hD, hCX, hnw, hao⟩ := hv
  have hx := B.exec
  have hb := B.bytes
  have hr := B.returns
  have hts0 := atoms_spec (ws := Jvm.Cond.code y cc maxL ret :: zx_Ts) B.pre
  have hts : ∀ w ∈ zx_Ts, w.before av.toArray s = true := fun w hw => hts0 w (List.mem_cons_of_mem _ hw)
  have hown : s.vm.findClass y.cls = some m.cls := findClass_of_methodNamed B.named
  have hlocks := B.notSynchronized
  have hin : meth.name = y.name := (name_of_methodNamed B.named B.method).1
  have hA' : ∀ q, s.heap.size ≤ q → A q := fun q hq => hA q (by rw [← hsz]; exact hq)
  have F : zx_FX p s m av.toArray meth c ({ frames := d + 1, cells := rm.1, slots := rm.2, locals := 100 * (d + 1) } : Room) cc y.cls zx_Ts zx_nw vwCl A ex maxL zx_sts (zw_YK zx_Yt Kr false) zx_aos zx_dt md.2.1 :=
    ⟨hx, hb, hown, hts, hnw, hA', ⟨by rw [k2], by rw [k2]⟩, fun q => by rw [hin]; exact k5 q, k3, hCX, hao, zx_CKt, k6⟩
  have hl := lv_entry av (n := maxL) (by rw [zx_words ha, ← k3]; exact hcats)
  rw [lg_entry_eq]
  generalize (lg_sl av ++ List.replicate (maxL - (lg_sl av).length) Slot.unset).toArray = ls at hl ⊢
  have Bx : zx_B D vwCl A b ex (ws, en.2.2.2.2.2.1) maxL s ρ en.2.2.1 (zx_args 0 en.2.2.2.1) [] s.heap [] ls [] tys ws (lv_args 0 av) :=
    ⟨hK, hP, hD, ⟨va_S.rf, zx_KP_rf ws en.2.2.2.2.2.1⟩, hh, zx_args_ok 0 ha, hl, trivial⟩
  refine hcont p e ({ frames := d + 1, cells := rm.1, slots := rm.2, locals := 100 * (d + 1) } : Room) s m av.toArray below meth c (MQ below (zg_Q D A b ex ρ ws en.2.2.2.2.2.1 en.2.2.2.2.1 (Z av ws)) av.toArray s rm.1 rm.2 A) D A b ex maxL y.cls cc ρ tys ws av hX hG hh ha ⟨F, k7, ⟨Nat.le_refl _, Nat.le_refl _⟩, hml, k8, fun r q => by rw [k4] at q; cases q⟩ ?_ s.heap [] ls [] tys (lv_args 0 av) hG Bx
  intro o r ws' hoE hoZ H' locs' ls' kc' pc' k' ir tys' g1 g2 g3 g4 g5 g6 g7 g8 g9 g10 g11
  obtain ⟨o0, ho0, r', q1, q2, q3⟩ := zg_E_ok hG.1 hoE g1 g7
  have g8 : k'.1 ≤ rm.1 := by rw [← k2]; exact g8
  have g9 : k'.2 ≤ rm.2 := by rw [← k2]; exact g9
  refine W.widen (k := rm.1) (n := rm.2) g8 g9 ?_
  have fin : ∀ (v : Option Value), zx_rv b ex (ρ ++ r) (zx_as ws') o.2.2 v → ∀ t : State, t.heap = H' → s.WarmedH t.vm → zg_Q D A b ex ρ ws en.2.2.2.2.2.1 en.2.2.2.2.1 (Z av ws) av.toArray s (.returned v) t := by
    intro v hv t ht hW
    exact ⟨⟨o0, ho0, v, r', tys', ws', rfl, q1, va_K.moved hW.alike g2, by rw [ht]; exact g3, g4, g6, q2, q3 v hv, hoZ v hv⟩, g5.F ht⟩
  rcases g11 with ⟨rfl, e1, rfl, e2⟩ | ⟨rfl, e1, w, e2, rfl, e3, e4⟩ | ⟨rfl, q, x1, e2, rfl, e3, e4⟩ | ⟨rfl, w, e2, rfl, e4⟩
  · have hrn : ret = none := by
      cases ret with
      | none => rfl
      | some ty => exact absurd e2 k9.2.1
    subst hrn
    exact W.vret hx hb hr (fin none (by rw [e1]; exact trivial)) g5.2.2 g10
  · cases ret with
    | none =>
      have k9 : md.2.2.2 = 4 := k9
      rw [k9] at e4
      exact (zx_fit4 e4).elim
    | some ty =>
      have hx1 : zx_R b ex (ρ ++ r) (zx_as ws') (.inl e1) (.int w) := ⟨w, rfl, e3⟩
      have hn := (zx_fit_ok (ty := ty) g1 (by rw [k9.1]; exact e4) hx1).1
      exact W.zret hx hb hr hn (fin (some (.int w)) (by rw [e2]; exact hx1)) g5.2.2 g10
  · cases ret with
    | none =>
      have k9 : md.2.2.2 = 4 := k9
      rw [k9] at e4; cases e4
    | some ty =>
      have hty : (∃ n, ty = .object n) ∨ ∃ t, ty = .array t := by
        have h9 := k9.1
        rw [e4] at h9
        cases ty <;> first | exact Or.inl ⟨_, rfl⟩ | exact Or.inr ⟨_, rfl⟩ | cases h9
      have hvx : x1 = .null ∨ ∃ a, x1 = .ref a := by
        rcases e3 with ⟨-, h1⟩ | ⟨i, a, -, -, h1⟩
        · exact Or.inl h1
        · exact Or.inr ⟨a, h1⟩
      exact W.aret hx hb hr hty hvx (fin (some x1) (by rw [e2]; exact e3)) g5.2.2 g10
  · cases ret with
    | none =>
      have k9 : md.2.2.2 = 4 := k9
      rw [k9] at e4; cases e4
    | some ty =>
      have hty : ty = .long := by
        have h9 := k9.1
        rw [e4] at h9
        cases ty <;> first | rfl | cases h9
      subst hty
      exact W.lret hx hb hr (fin (some (.long w)) (by rw [e2]; exact ⟨w, rfl⟩)) g5.2.2 g10
/-- known places of a row, whatever its sort -/
def zq_rw (h : List zx_C) (i : Nat) : List (zx_L × zx_V) := match zy_get h i with
  | some (.inr (.inl (tg, _, true, _ :: fs))) => if tg < 3 then zx_fs fs else []
  | _ => []
theorem zq_rw_ok {b : Nat} {ex : List Nat} {ρ : List Int} {tys : List (ClassId × FieldType)} {h : List zx_C} {ws : va_W} (hh : zx_F2 (fun c q => zx_RC vwCl b ex ρ (zx_as ws) tys c q.2) h ws) {i : Nat} {f : Nat → Int32} (hf : zg_row ws i f) {e v : zx_L} (hm : (e, .inl v) ∈ zq_rw h i) : ∃ w : Nat, zx_ev ρ e = some (w : Int) ∧ zx_ev ρ v = some (f w).toInt := by
  unfold zq_rw at hm
  split at hm
  case h_2 => cases hm
  rename_i tg n0 t fs hc
  split at hm
  case isFalse => cases hm
  rename_i htg
  rw [zy_get_eq] at hc
  obtain ⟨⟨qa, qe⟩, h1, cB, t0, h2, h3⟩ := zx_F2_get hh hc
  rcases h3 with ⟨h3, g, h4, h5⟩ | ⟨h3, -⟩
  · have h4 : qe = .inl (cB, n0, .inl g) := h4
    subst h4
    have e9 := zg_row_eq hf h1
    subst e9
    obtain ⟨t', fs', h6, h7, h8⟩ := h5
    cases h6
    obtain ⟨w, k1, k2, k3, k4⟩ := h8 _ hm
    obtain ⟨x, k5, k6⟩ := k4
    cases k5
    have k2 : 0 ≤ w := k2
    refine ⟨w.toNat, ?_, k6⟩
    rw [k1]
    congr 1
    omega
  · have h3 : 3 ≤ tg := h3
    omega
end
