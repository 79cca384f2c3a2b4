noncomputable section
/-! zq: opera: taken, or refused -/
theorem zq_P1g : zq_P1[20]? = some (some vYm_rr) := rfl
theorem zq_P2g : zq_P2[142]? = some (some vGm_opr) := rfl
theorem zq_PK : zx_PK vwCl zx_Ts zx_nw zx_sts zx_aos zx_PRt zx_rmt zq_P := zq_PK_set (zq_PK_set (zq_PK_set zx_PKt vYm_rt_ok vYk_rt) zq_P1g vYk_rr) zq_P2g vYk_or
def zq_f (K : List Nat) : zx_Fn := zx_run (zw_YK zx_Yt K false) zx_dt zx_rmt (zv_hd [] 0 zq_P) zq_f0 3000 8
theorem zq_f_ok {l : Launch} (K : List Nat) (d0 : Nat) : zx_FOK l vwCl zx_Ts zx_nw zx_sts (zw_YK zx_Yt K false) zx_aos zx_PRt zx_rmt (d0 + 8) (zq_f K) :=
  zv_run_ok (Y := zw_YK zx_Yt K false) d0 (zv_PK_hd zq_PK) zx_CKt zx_arrs zx_Ts_good zx_nw_kind (vYI K) (fun _ _ _ => by
    intro y cc maxL ret rm _ _ G h as os hz
    cases hz) 8
/-- one of two ends -/
def zq_sel (acc : Bool) (en : zw_En) : zw_En := (en.1, en.2.1, en.2.2.1, en.2.2.2.1, (if acc = true then en.2.2.2.2.1.drop 1 else en.2.2.2.2.1.take 1), en.2.2.2.2.2.1, en.2.2.2.2.2.2)
/-- what is asked of the arguments and the tape -/
def zqXo (q : Nat) (acc : Bool) (av : List Value) (ws : va_W) : Prop := ∃ (f : Nat → Int32) (t : Int) (h s n : Int32), zg_row ws 1 f ∧ zg_fld ws q t ∧ (av[1]? = some (.int h) ∧ av[2]? = some (.int s) ∧ av[4]? = some (.int n)) ∧ ((zq_ar h.toInt s.toInt n.toInt ∧ zq_ok f t) ↔ acc = true)
/-- all ends are good ones of their kind -/
def zq_e1 (en : zw_En) (u a : Nat) (x : zx_Os) : Bool := match x with
  | .inl o => (zw_E en.2.1.length o (en.2.2.2.2.1.take 1) && zq_ref u a 1 o.1 o.2.1) || (zw_E en.2.1.length o (en.2.2.2.2.1.drop 1) && zq_acc u a 1 o.1 o.2.1)
  | .inr _ => false
def zq_o1 (K : List Nat) (en : zw_En) (md : zx_MD) : Option (List zx_Os) := zx_ex (zw_YK zx_Yt K false) zx_dt zx_rmt (fun _ => false) md (zq_f K) 3000 (zx_drop 0 md.1) en.2.1 en.2.2.1 (zx_args 0 en.2.2.2.1) (0, 0) []
def zq_c1 (K : List Nat) (en : zw_En) (u a : Nat) (md : zx_MD) : Bool := match zq_o1 K en md with
  | some os => os.all (zq_e1 en u a)
  | none => false
/-- some of the ends alone -/
def zq_c1s (K : List Nat) (en : zw_En) (u a : Nat) (md : zx_MD) (i n L : Nat) : Bool := match zq_o1 K en md with
  | some os => Nat.ble os.length L && ((os.drop i).take n).all (zq_e1 en u a)
  | none => false
theorem zq_sl {T : Type} {os : List T} {f : T → Bool} {n m : Nat} (hl : os.length ≤ m * n) (h : ∀ i, i < m → ((os.drop (i * n)).take n).all f = true) : os.all f = true := by
  rw [List.all_eq_true]
  intro x hx
  obtain ⟨j, hj, e⟩ := List.getElem_of_mem hx
  have hn : 0 < n := by
    rcases Nat.eq_zero_or_pos n with h0 | h0
    · subst h0
      rw [Nat.mul_zero] at hl
      omega
    · exact h0
  have hi : j / n < m := Nat.div_lt_of_lt_mul (by rw [Nat.mul_comm]; exact Nat.lt_of_lt_of_le hj hl)
  have hd : j / n * n + j % n = j := Nat.div_add_mod' j n
  have hm : j % n < n := Nat.mod_lt j hn
  refine List.all_eq_true.mp (h (j / n) hi) x (List.mem_of_getElem? (i := j % n) ?_)
  rw [List.getElem?_take, if_pos hm, List.getElem?_drop, hd, List.getElem?_eq_getElem hj, e]
theorem zq_c1_of {K : List Nat} {en : zw_En} {u a : Nat} {md : zx_MD} {n m : Nat} (hm : 0 < m) (h : ∀ i, i < m → zq_c1s K en u a md (i * n) n (m * n) = true) : zq_c1 K en u a md = true := by
  unfold zq_c1
  cases hz : zq_o1 K en md with
  | none =>
    have h0 := h 0 hm
    unfold zq_c1s at h0
    rw [hz] at h0
    cases h0
  | some os =>
    have h1 : ∀ i, i < m → os.length ≤ m * n ∧ ((os.drop (i * n)).take n).all (zq_e1 en u a) = true := by
      intro i hi
      have h2 := h i hi
      unfold zq_c1s at h2
      rw [hz] at h2
      have h3 : (Nat.ble os.length (m * n) && ((os.drop (i * n)).take n).all (zq_e1 en u a)) = true := h2
      rw [Bool.and_eq_true] at h3
      exact ⟨Nat.le_of_ble_eq_true h3.1, h3.2⟩
    exact zq_sl (h1 0 hm).1 (fun i hi => (h1 i hi).2)
/-- arguments and tape as numbers -/
def zq_q1 (en : zw_En) (u a q : Nat) : Bool := decide (zg_fe en.2.2.1 q = some ([(u, 1)], 0)) && (decide (en.2.2.2.1[1]? = some (.inl ([(a, 1)], 0))) && (decide (en.2.2.2.1[2]? = some (.inl ([(a + 1, 1)], 0))) && decide (en.2.2.2.1[4]? = some (.inl ([(a + 3, 1)], 0)))))
theorem zq_X_ev {b : Nat} {ex : List Nat} {ρ : List Int} {tys : List (ClassId × FieldType)} {ws : va_W} {en : zw_En} {u a q : Nat} {av : List Value} {acc : Bool} (hk : zq_q1 en u a q = true) (hh : zx_F2 (fun c q => zx_RC vwCl b ex ρ (zx_as ws) tys c q.2) en.2.2.1 ws) (ha : zx_F2 (zx_R b ex ρ (zx_as ws)) en.2.2.2.1 av) (hX : zqXo q acc av ws) : ∃ (f : Nat → Int32) (t : Int) (h s n : Int32), zg_row ws 1 f ∧ zx_ev ρ ([(u, 1)], 0) = some t ∧ zx_ev ρ ([(a, 1)], 0) = some h.toInt ∧ zx_ev ρ ([(a + 1, 1)], 0) = some s.toInt ∧ zx_ev ρ ([(a + 3, 1)], 0) = some n.toInt ∧ ((zq_ar h.toInt s.toInt n.toInt ∧ zq_ok f t) ↔ acc = true) := by
  unfold zq_q1 at hk
  simp only [Bool.and_eq_true, decide_eq_true_iff] at hk
  obtain ⟨k1, k2, k3, k4⟩ := hk
  obtain ⟨f, t, h, s, n, x1, x2, ⟨x3, x4, x5⟩, x6⟩ := hX
  obtain ⟨w, w1, w2⟩ := zg_fe_ok hh k1
  have e1 := zg_fld_u x2 w1
  subst e1
  obtain ⟨y1, p1, q1⟩ := zg_arg ha k2
  obtain ⟨y2, p2, q2⟩ := zg_arg ha k3
  obtain ⟨y4, p4, q4⟩ := zg_arg ha k4
  have e2 : y1 = h := Value.int.inj (Option.some.inj (p1.symm.trans x3))
  have e3 : y2 = s := Value.int.inj (Option.some.inj (p2.symm.trans x4))
  have e4 : y4 = n := Value.int.inj (Option.some.inj (p4.symm.trans x5))
  subst e2
  subst e3
  subst e4
  exact ⟨f, t, y1, y2, y4, x1, w2, q1, q2, q4, x6⟩
/-- a method without a call by hand that ends so -/
theorem zq_op1 {l : Launch} {P : List (Option zx_MD)} (hPK : zx_PK vwCl zx_Ts zx_nw zx_sts zx_aos zx_PRt zx_rmt P) {K : List Nat} {en : zw_En} {u a q : Nat} {md : zx_MD} (hP : P[en.1]? = some (some md)) (hcats : zx_cats en.2.2.2.1 ≤ zx_mV md.2.1) (hK : ∀ i ∈ en.2.2.2.2.2.1, i ∈ K) (h1K : 1 ∈ K) (hq : zq_q1 en u a q = true) (hc : zq_c1 K en u a md = true) (acc : Bool) : zg_EN l 9 (zq_sel acc en) (zqXo q acc) (fun _ _ _ _ => True) := by
  refine zq_enter hPK (d := 8) (en := zq_sel acc en) (Kr := K) (md := md) hP hcats ?_
  intro p e R s mi args below meth c Q D A b ex nL own cc ρe tys ws0 av hX hG hh ha C KE
  obtain ⟨f, t, h, sv, n, x1, x2, x3, x4, x5, x6⟩ := zq_X_ev hq hh ha hX
  unfold zq_c1 at hc
  split at hc
  case h_2 => cases hc
  rename_i os hos
  refine zg_run (T := (en.2.1, en.2.2.1, zx_args 0 en.2.2.2.1, [], 0, 0)) C hK (zq_f_ok K 0) hos (fun o ho r2 ws' kp => ?_) (fun q' hq' => ?_)
  · have h1 : zq_e1 en u a (.inl o) = true := List.all_eq_true.mp hc _ ho
    have h1 : ((zw_E en.2.1.length o (en.2.2.2.2.1.take 1) && zq_ref u a 1 o.1 o.2.1) || (zw_E en.2.1.length o (en.2.2.2.2.1.drop 1) && zq_acc u a 1 o.1 o.2.1)) = true := h1
    rw [Bool.or_eq_true, Bool.and_eq_true, Bool.and_eq_true] at h1
    have y1 := zg_row_kp kp h1K x1
    intro H' locs' ls' kc' pc' k' ir tys' g1 g2 g3 g4 g5 g6 g7
    rcases h1 with ⟨h2, h3⟩ | ⟨h2, h3⟩
    · cases acc with
      | true => exact absurd (x6.mpr rfl) (zq_ref_ok g1 g7 y1 h3 (zx_ev_app x2) (zx_ev_app x3) (zx_ev_app x4) (zx_ev_app x5))
      | false => exact KE o r2 ws' h2 (fun _ _ => trivial) H' locs' ls' kc' pc' k' ir tys' g1 g2 g3 g4 g5 g6 g7
    · have h4 := x6.mp (zq_acc_ok g1 g7 y1 h3 (zx_ev_app x2) (zx_ev_app x3) (zx_ev_app x4) (zx_ev_app x5))
      subst h4
      exact KE o r2 ws' h2 (fun _ _ => trivial) H' locs' ls' kc' pc' k' ir tys' g1 g2 g3 g4 g5 g6 g7
  · have h1 : zq_e1 en u a (.inr q') = true := List.all_eq_true.mp hc _ hq'
    cases h1
theorem zq_Po : zq_P[16]? = some (some vYm_o) := rfl
end
