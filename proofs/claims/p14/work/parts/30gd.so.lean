noncomputable section
/-! zf: isSo of the reference: how many answers wait -/
theorem zx_d1_of {d v n : Int} (h : zx_d1 d v = some n) : (v = 20 ∧ 1 ≤ d ∧ n = d) ∨ (21 ≤ v ∧ v ≤ 22 ∧ 2 ≤ d ∧ n = d - 1) ∨ (0 ≤ v ∧ v ≤ 9 ∧ 0 ≤ d ∧ d ≤ 62 ∧ n = d + 1) := by
  unfold zx_d1 at h
  split at h
  · rename_i hv
    split at h
    · cases h; exact Or.inl ⟨hv, by assumption, rfl⟩
    · cases h
  · split at h
    · rename_i hv
      split at h
      · cases h; exact Or.inr (Or.inl ⟨by omega, by omega, by assumption, rfl⟩)
      · cases h
    · split at h
      · rename_i hv
        split at h
        · rename_i hd
          cases h; exact Or.inr (Or.inr ⟨hv.1, hv.2, hd.1, hd.2, rfl⟩)
        · cases h
      · cases h
theorem zx_dp_s {f : Nat → Int32} {lo : Nat} : ∀ {M m : Nat} {d : Int}, m < M → zx_dp f lo M = some d → ∃ n n', zx_dp f lo m = some n ∧ zx_d1 n (f (lo + m)).toInt = some n' ∧ zx_dp f lo (m + 1) = some n'
  | 0, m, d, hm, _ => absurd hm (Nat.not_lt_zero _)
  | M + 1, m, d, hm, h => by
    have h0 := h
    rw [zx_dp] at h
    split at h
    · rename_i d1 hd1
      by_cases hmM : m = M
      · subst hmM
        exact ⟨d1, d, hd1, h, h0⟩
      · exact zx_dp_s (by omega) hd1
    · cases h
def vSK : List Nat := zv_K vERF
def vSY : zx_Y := zw_YK zx_Yt vSK false
def vSf : zx_Fn := zx_run vSY zx_dt zx_rmt (zv_hd vSjs 0 zx_Pt) (zw_mm vSK false vSE) 3000 8
def vSstp (pc : Nat) : Bool := Nat.beq pc 11
def vSmd : zx_MD := match zy_get zx_Pt vSj with
  | some (some md) => md
  | _ => zx_mlaw
theorem vSmd_ok : zx_Pt[vSj]? = some (some vSmd) := rfl
def zf_rn (T : zx_T) : Option (List zx_Os) := zx_ex vSY zx_dt zx_rmt vSstp vSmd vSf 3000 (zx_drop 11 vSmd.1) T.1 T.2.1 T.2.2.1 T.2.2.2.2 T.2.2.2.1
def zf_cq (q : Nat × zx_T) (e1 e2 : zx_L) : Bool := Nat.beq q.1 11 && (fun (σ : List zx_L) => zw_T vSm vST q.2 σ && (zf_is q.2.1 σ vSm e1 && zf_is q.2.1 σ (vSm + 1) e2)) (zw_sg vSm vST q.2)
def zf_ck (e1 e2 : zx_L) : List zx_Os → Bool
  | [] => true
  | .inl o :: r => zw_E vSm o vSo && zf_ck e1 e2 r
  | .inr q :: r => zf_cq q e1 e2 && zf_ck e1 e2 r
def zf_ckE : List zx_Os → Bool
  | [] => true
  | .inl o :: r => zw_E vSm o vSo && zf_ckE r
  | .inr _ :: _ => false
def zf_chk (T : zx_T) (δ : Int) : Bool := match zf_rn T with
  | some os => zf_ck ([(vSm, 1)], δ) ([(vSm + 1, 1)], 1) os
  | none => false
def zf_chkE (T : zx_T) : Bool := match zf_rn T with
  | some os => zf_ckE os
  | none => false
def zf_chk0 : Bool := Nat.ble (zx_cats vSa) (zx_mV vSmd.2.1) && (match zx_ex vSY zx_dt zx_rmt vSstp vSmd vSf 3000 vSmd.1 vSG vSh (zx_args 0 vSa) (0, 0) [] with
  | some os => zf_ck ([], 0) ([(vSis, 100), (vSif, 1)], 0) os
  | none => false)
set_option maxRecDepth 1000000 in
theorem vSc0 : zf_chk0 = true := by decide +kernel
set_option maxRecDepth 1000000 in
theorem vScE : zf_chkE vSTE = true := by decide +kernel
set_option maxRecDepth 1000000 in
theorem vScN : zf_chk vSTN 0 = true := by decide +kernel
set_option maxRecDepth 1000000 in
theorem vScA : zf_chk vSTA (-1) = true := by decide +kernel
set_option maxRecDepth 1000000 in
theorem vScF : zf_chk vSTF 1 = true := by decide +kernel
theorem zf_ck_l {e1 e2 : zx_L} {o : zx_Ou} : ∀ {os : List zx_Os}, zf_ck e1 e2 os = true → .inl o ∈ os → zw_E vSm o vSo = true
  | .inl a :: r, h, hm => by
    rw [zf_ck, Bool.and_eq_true] at h
    rcases List.mem_cons.mp hm with g | g
    · cases g; exact h.1
    · exact zf_ck_l h.2 g
  | .inr a :: r, h, hm => by
    rw [zf_ck, Bool.and_eq_true] at h
    rcases List.mem_cons.mp hm with g | g
    · cases g
    · exact zf_ck_l h.2 g
theorem zf_ck_r {e1 e2 : zx_L} {q : Nat × zx_T} : ∀ {os : List zx_Os}, zf_ck e1 e2 os = true → .inr q ∈ os → zf_cq q e1 e2 = true
  | .inl a :: r, h, hm => by
    rw [zf_ck, Bool.and_eq_true] at h
    rcases List.mem_cons.mp hm with g | g
    · cases g
    · exact zf_ck_r h.2 g
  | .inr a :: r, h, hm => by
    rw [zf_ck, Bool.and_eq_true] at h
    rcases List.mem_cons.mp hm with g | g
    · cases g; exact h.1
    · exact zf_ck_r h.2 g
theorem zf_ckE_ok {x : zx_Os} : ∀ {os : List zx_Os}, zf_ckE os = true → x ∈ os → ∃ o, x = .inl o ∧ zw_E vSm o vSo = true
  | .inl a :: r, h, hm => by
    rw [zf_ckE, Bool.and_eq_true] at h
    rcases List.mem_cons.mp hm with g | g
    · exact ⟨a, g, h.1⟩
    · exact zf_ckE_ok h.2 g
  | .inr _ :: _, h, _ => nomatch h
theorem vSf_ok {l : Launch} : zx_FOK l vwCl zx_Ts zx_nw zx_sts vSY zx_aos zx_PRt zx_rmt 17 vSf :=
  zv_run_ok (Y := vSY) 9 (zv_PK_hd zx_PKt) zx_CKt zx_arrs zx_Ts_good zx_nw_kind (vYI vSK) (fun d j _ => zw_mm_ok (Y := zx_Yt) vSEok (d := 9 + d + 1) (by omega) vSK false j) 8
/-- what isSo asks for -/
def vSX (ρ : List Int) (ws : va_W) : Prop := ∃ (a : Nat) (c : ClassId) (n : Nat) (fS : Nat → Int32) (sv fv tv d : Int), ws[vSst]? = some (a, .inl (c, n, .inl fS)) ∧ ρ[vSis]? = some sv ∧ ρ[vSif]? = some fv ∧ ρ[vSit]? = some tv ∧ zx_dp fS (100 * sv.toNat + fv.toNat) (tv - fv).toNat = some d
section ZFS
variable {p : Program} {l : Launch} {e : Env} {R : Room} {s : State} {mi : MethodId} {args : Array Value} {below : List Frame} {meth : Method} {c : Code} {Q : State → Prop} {D : va_G} {A : Nat → Prop} {b : Nat} {ex : List Nat} {nL : Nat} {own : String} {cc : ByteArray} {ρe : List Int} {ad0 : zx_A0}
theorem zf_var (hYO : zx_YO vSY ad0) (F : zx_FX p s mi args meth c R cc own zx_Ts zx_nw vwCl A ex nL zx_sts vSY zx_aos zx_dt vSmd.2.1) (hLK : zx_LK own vwCl zx_Ts zx_nw zx_PRt vSmd.2.2.1) (hroom : 18 ≤ R.frames ∧ 1800 ≤ R.locals) (hml : c.maxLocals = nL) (htbl : zx_TB cc vSmd.1) (hS : ∀ r : List Int, zx_SX b (fun _ => 0) A s vSmd.2.1 (ρe ++ r)) (hm : ρe.length = vSm) (KE : zw_KE p l e R s mi args below meth c Q D vwCl A b ex ad0 cc vSmd.2.2.2 (zx_mR vSmd.2.1) ρe vSo) {T : zx_T} {δ nn kk : Int} (hck : zf_chk T δ = true) {r : List Int} {H : Heap} {locs : List Loc} {ls : Array Slot} {kc : List Value} (J : zx_J D vwCl A b ex ad0 nL s (ρe ++ r) T.1 T.2.1 T.2.2.1 T.2.2.2.1 H locs ls kc) (hn : (ρe ++ r)[vSm]? = some nn) (hk : (ρe ++ r)[vSm + 1]? = some kk)
    (IH : ∀ (r' : List Int) (H' : Heap) (locs' : List Loc) (ls' : Array Slot) (kc' : List Value), zx_J D vwCl A b ex ad0 nL s (ρe ++ r') vST.1 vST.2.1 vST.2.2.1 vST.2.2.2.1 H' locs' ls' kc' → (ρe ++ r')[vSm]? = some (nn + δ) → (ρe ++ r')[vSm + 1]? = some (kk + 1) → W p l e R s mi args below meth c H' locs' 0 0 Q (F0 mi 11 ls' kc')) :
    W p l e R s mi args below meth c H locs T.2.2.2.2.1 T.2.2.2.2.2 Q (F0 mi 11 ls kc) := by
  unfold zf_chk at hck
  split at hck
  case h_2 => cases hck
  rename_i os hos
  unfold zf_rn at hos
  cases hc : zx_drop 11 vSmd.1 with
  | nil => rw [hc, zx_ex_nil] at hos; cases hos
  | cons x nx =>
    obtain ⟨g1, g2⟩ := zx_drop_ok (t := 11) (l := vSmd.1)
    rw [hc] at hos g1
    rw [← g2 x nx hc]
    refine zx_ex_ok (xs := fun _ => 0) (md := vSmd) (f := vSf) (k := T.2.2.2.2) hYO F zx_arrs vSf_ok hLK zx_Ts_good zx_nw_kind hroom hml htbl 3000 x nx (ρe ++ r) _ _ _ _ os H locs ls kc (hS r) g1 J hos ⟨fun o ho r2 H' locs' ls' kc' pc' k' ir tys ws g1 g2 g3 g4 g5 g6 g7 g8 g9 g10 g11 => ?_, fun q2 hq2 r2 H' locs' ls' kc' J' => ?_⟩
    · rw [List.append_assoc] at g1 g7 g11
      exact zw_end_ok hm KE (zf_ck_l hck ho) g1 g2 g3 g4 g5 g6 g7 g8 g9 g10 g11
    · have h9 := zf_ck_r hck hq2
      unfold zf_cq at h9
      simp only [Bool.and_eq_true] at h9
      obtain ⟨c1, c2, c3, c4⟩ := h9
      rw [Nat.eq_of_beq_eq_true c1]
      rw [List.append_assoc] at J'
      have hn2 : zx_ev (ρe ++ (r ++ r2)) ([(vSm, 1)], δ) = some (nn + δ) := by
        rw [← List.append_assoc]
        exact zx_ev_app (zx_ev_iff.mpr ⟨nn, zx_evl_cons.mpr ⟨nn, 0, hn, rfl, by simp⟩, rfl⟩)
      have hk2 : zx_ev (ρe ++ (r ++ r2)) ([(vSm + 1, 1)], 1) = some (kk + 1) := by
        rw [← List.append_assoc]
        exact zx_ev_app (zx_ev_iff.mpr ⟨kk, zx_evl_cons.mpr ⟨kk, 0, hk, rfl, by simp⟩, rfl⟩)
      have hG2 := J'.1
      obtain ⟨r', d1, d2, d3⟩ := zw_T_ok hm c2 J'
      unfold zx_le2 at d3
      rw [Bool.and_eq_true] at d3
      refine W.widen (k := vST.2.2.2.2.1) (n := vST.2.2.2.2.2) (Nat.le_of_ble_eq_true d3.1) (Nat.le_of_ble_eq_true d3.2) ?_
      exact IH r' H' locs' ls' kc' d2 (zf_is_ok hG2 d1 c3 hn2) (zf_is_ok hG2 d1 c4 hk2)
theorem zf_varE (hYO : zx_YO vSY ad0) (F : zx_FX p s mi args meth c R cc own zx_Ts zx_nw vwCl A ex nL zx_sts vSY zx_aos zx_dt vSmd.2.1) (hLK : zx_LK own vwCl zx_Ts zx_nw zx_PRt vSmd.2.2.1) (hroom : 18 ≤ R.frames ∧ 1800 ≤ R.locals) (hml : c.maxLocals = nL) (htbl : zx_TB cc vSmd.1) (hS : ∀ r : List Int, zx_SX b (fun _ => 0) A s vSmd.2.1 (ρe ++ r)) (hm : ρe.length = vSm) (KE : zw_KE p l e R s mi args below meth c Q D vwCl A b ex ad0 cc vSmd.2.2.2 (zx_mR vSmd.2.1) ρe vSo) {r : List Int} {H : Heap} {locs : List Loc} {ls : Array Slot} {kc : List Value} (J : zx_J D vwCl A b ex ad0 nL s (ρe ++ r) vSTE.1 vSTE.2.1 vSTE.2.2.1 vSTE.2.2.2.1 H locs ls kc) :
    W p l e R s mi args below meth c H locs 0 0 Q (F0 mi 11 ls kc) := by
  have hck := vScE
  unfold zf_chkE at hck
  split at hck
  case h_2 => cases hck
  rename_i os hos
  unfold zf_rn at hos
  cases hc : zx_drop 11 vSmd.1 with
  | nil => rw [hc, zx_ex_nil] at hos; cases hos
  | cons x nx =>
    obtain ⟨g1, g2⟩ := zx_drop_ok (t := 11) (l := vSmd.1)
    rw [hc] at hos g1
    rw [← g2 x nx hc]
    refine zx_ex_ok (xs := fun _ => 0) (md := vSmd) (f := vSf) (k := (0, 0)) hYO F zx_arrs vSf_ok hLK zx_Ts_good zx_nw_kind hroom hml htbl 3000 x nx (ρe ++ r) _ _ _ _ os H locs ls kc (hS r) g1 J hos ⟨fun o ho r2 H' locs' ls' kc' pc' k' ir tys ws g1 g2 g3 g4 g5 g6 g7 g8 g9 g10 g11 => ?_, fun q2 hq2 r2 H' locs' ls' kc' J' => ?_⟩
    · rw [List.append_assoc] at g1 g7 g11
      obtain ⟨o', e1, e2⟩ := zf_ckE_ok hck ho
      cases e1
      exact zw_end_ok hm KE e2 g1 g2 g3 g4 g5 g6 g7 g8 g9 g10 g11
    · obtain ⟨o', e1, e2⟩ := zf_ckE_ok hck hq2
      cases e1
end ZFS
end
