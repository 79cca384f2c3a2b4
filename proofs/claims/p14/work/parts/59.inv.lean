noncomputable section
/-! zgL: the law's loop -/
def zgR1e (ws : va_W) : Prop := ∃ (fW fH : Nat → Int32) (lm lh t lt : Int), zg_row ws 68 fW ∧ zg_row ws 2 fH ∧ zg_fld ws 98 lm ∧ zg_fld ws 99 lh ∧ zg_fld ws 6 t ∧ zg_fld ws 100 lt ∧ lt ≤ t ∧ (lt = t → ∀ k : Nat, (k : Int) < lm → lh + (fH (fW k).toInt.toNat).toInt ≤ 24)
theorem zgR1e_1 {ws : va_W} (h : zgR1e ws) : zgR1 ws := by
  obtain ⟨fW, fH, lm, lh, t, lt, h1, h2, h3, h4, h5, h6, h7, h8⟩ := h
  intro fW' fH' lm' lh' t' k1 k2 k3 k4 k5 k6 k hk
  have e1 := zg_row_u k1 h1
  have e2 := zg_row_u k2 h2
  have e3 := zg_fld_u k3 h3
  have e4 := zg_fld_u k4 h4
  have e5 := zg_fld_u k5 h5
  have e6 := zg_fld_u k6 h6
  subst e1
  subst e2
  subst e3
  subst e4
  exact h8 (by omega) k hk
theorem zgR1e_kp {ws ws' : va_W} {l : List (Nat × (Int × Int))} {d : Int} (h : zgR1e ws) (hr : ∀ i ∈ [2, 68], ∀ f, zg_row ws i f → zg_row ws' i f) (hf : zg_fs ws ws' l) (m1 : (98, ((0 : Int), (0 : Int))) ∈ l) (m2 : (99, ((0 : Int), (0 : Int))) ∈ l) (m3 : (100, ((0 : Int), (0 : Int))) ∈ l) (m4 : (6, ((0 : Int), d)) ∈ l) : zgR1e ws' := by
  obtain ⟨fW, fH, lm, lh, t, lt, h1, h2, h3, h4, h5, h6, h7, h8⟩ := h
  obtain ⟨t', k1, k2, -⟩ := hf _ m4 t h5
  have k2 : t + 0 ≤ t' := k2
  exact ⟨fW, fH, lm, lh, t', lt, hr 68 (by decide) _ h1, hr 2 (by decide) _ h2, zg_fs_0 hf m1 h3, zg_fs_0 hf m2 h4, k1, zg_fs_0 hf m3 h6, by omega, fun e => h8 (by omega)⟩
theorem zgR1e_op {ws ws' : va_W} {l : List (Nat × (Int × Int))} (h : zgR1e ws) (hr : ∀ f, zg_row ws 68 f → zg_row ws' 68 f) (hf : zg_fs ws ws' l) (m1 : (98, ((0 : Int), (0 : Int))) ∈ l) (m2 : (99, ((0 : Int), (0 : Int))) ∈ l) (m3 : (100, ((0 : Int), (0 : Int))) ∈ l) (hZ : ∀ (fH : Nat → Int32) (t : Int), zg_row ws 2 fH → zg_fld ws 6 t → (zg_row ws' 2 fH ∧ zg_fld ws' 6 t) ∨ ((∃ f, zg_row ws' 2 f) ∧ zg_fld ws' 6 (t + 1))) : zgR1e ws' := by
  obtain ⟨fW, fH, lm, lh, t, lt, h1, h2, h3, h4, h5, h6, h7, h8⟩ := h
  rcases hZ fH t h2 h5 with ⟨k1, k2⟩ | ⟨⟨g, hg⟩, k2⟩
  · exact ⟨fW, fH, lm, lh, t, lt, hr _ h1, k1, zg_fs_0 hf m1 h3, zg_fs_0 hf m2 h4, k2, zg_fs_0 hf m3 h6, h7, h8⟩
  · exact ⟨fW, g, lm, lh, t + 1, lt, hr _ h1, hg, zg_fs_0 hf m1 h3, zg_fs_0 hf m2 h4, k2, zg_fs_0 hf m3 h6, by omega, fun e => by omega⟩
theorem zgL_fs_bk {o n : Nat} {ws ws' : va_W} {l : List (Nat × (Int × Int))} (hn : 0 < n) (h : zg_fs (ws.drop o) (ws'.drop o) l) : zg_fs (zgL_bk o n ws) (zgL_bk o n ws') l := by
  intro q hq w hw
  obtain ⟨w', h1, h2⟩ := h q hq w ((zgL_bk_fld hn).mp hw)
  exact ⟨w', (zgL_bk_fld hn).mpr h1, h2⟩
theorem zgL_row_bk {o n i : Nat} {ws ws' : va_W} {K : List Nat} {f : Nat → Int32} (kp : zx_KP (ws, K) ws') (hi : i < n) (hK : o + i ∈ K) (h : zg_row (zgL_bk o n ws) i f) : zg_row (zgL_bk o n ws') i f :=
  (zgL_bk_row hi).mpr (zg_row_kp kp hK ((zgL_bk_row hi).mp h))
theorem zgL_PF_bk {ws ws' : va_W} {K : List Nat} (kp : zx_KP (ws, K) ws') (hK : ∀ i ∈ [20, 22, 23, 24], 218 + i ∈ K) (h : zx_PF (zgL_bk 218 69 ws)) : zx_PF (zgL_bk 218 69 ws') := by
  obtain ⟨fS, fF, fT, fN, h1, h2⟩ := zgPF_e h
  exact zgPF_i ⟨zgL_row_bk kp (by decide) (hK 24 (by decide)) h1.1, zgL_row_bk kp (by decide) (hK 22 (by decide)) h1.2.1, zgL_row_bk kp (by decide) (hK 23 (by decide)) h1.2.2.1, zgL_row_bk kp (by decide) (hK 20 (by decide)) h1.2.2.2⟩ h2
def zgL_Inv (ws : va_W) : Prop := zx_PF (zgL_bk 218 69 ws) ∧ zgR1e (zgL_bk 218 69 ws)
theorem vLK_6 : ∀ i ∈ [2, 20, 22, 23, 24, 68], 218 + i ∈ vLK := by decide
theorem zgL_Inv_kp {ws ws' : va_W} {l : List (Nat × (Int × Int))} {d : Int} (h : zgL_Inv ws) (kp : zx_KP (ws, vLK) ws') (hf : zg_fs (ws.drop 218) (ws'.drop 218) l) (m1 : (98, ((0 : Int), (0 : Int))) ∈ l) (m2 : (99, ((0 : Int), (0 : Int))) ∈ l) (m3 : (100, ((0 : Int), (0 : Int))) ∈ l) (m4 : (6, ((0 : Int), d)) ∈ l) : zgL_Inv ws' := by
  refine ⟨zgL_PF_bk kp (fun i hi => vLK_6 i ?_) h.1, zgR1e_kp h.2 (fun i hi f hr => ?_) (zgL_fs_bk (by decide) hf) m1 m2 m3 m4⟩
  · simp only [List.mem_cons, List.not_mem_nil, or_false] at hi ⊢
    rcases hi with rfl | rfl | rfl | rfl <;> simp
  · simp only [List.mem_cons, List.not_mem_nil, or_false] at hi
    rcases hi with rfl | rfl
    · exact zgL_row_bk kp (by decide) (vLK_6 2 (by decide)) hr
    · exact zgL_row_bk kp (by decide) (vLK_6 68 (by decide)) hr
/-! what lay's outs say -/
def zgP1 (G : zx_G) (lh w : zx_L) : List (zx_L × zx_V) → Bool
  | [] => false
  | q :: r => (match q.2 with
    | .inl hv => (fun (d : zx_L) => zx_isc d && decide (d.2 = 0)) (zx_sub q.1 w) && zg_xb G (zx_sub lh (zx_sub ([], 0) hv)) (-1000) 24
    | _ => false) || zgP1 G lh w r
def zgP2 (G : zx_G) (h : List zx_C) (lh : zx_L) (k : Nat) : List (zx_L × zx_V) → Bool
  | [] => false
  | q :: r => (match q.2 with
    | .inl w => (fun (d : zx_L) => zx_isc d && decide (d.2 = 0)) (zx_sub q.1 ([], (k : Int))) && zgP1 G lh w (zg_rw h 2)
    | _ => false) || zgP2 G h lh k r
def zgPr (h : List zx_C) (i : Nat) : Bool := match h[i]? with
  | some (.inr (.inl q)) => Nat.blt q.1 3
  | _ => false
def zgP (o : zx_Ou) : Bool := match zg_fe o.2.1 98, zg_fe o.2.1 99, zg_fe o.2.1 6, zg_fe o.2.1 100 with
  | some lm, some lh, some t, some lt => (zx_isc lm && zg_xb o.1 (zx_sub t lt) 0 10000) && ((zgPr o.2.1 68 && zgPr o.2.1 2) && (List.range lm.2.toNat).all (fun k => zgP2 o.1 o.2.1 lh k (zg_rw o.2.1 68)))
  | _, _, _, _ => false
section ZGPS
variable {b : Nat} {ex : List Nat} {ρ : List Int} {tys : List (ClassId × FieldType)} {G : zx_G} {h : List zx_C} {ws : va_W}
theorem zgPr_ok (hh : zx_F2 (fun c q => zx_RC vwCl b ex ρ (zx_as ws) tys c q.2) h ws) {i : Nat} (hp : zgPr h i = true) : ∃ f, zg_row ws i f := by
  unfold zgPr at hp
  split at hp
  · rename_i q hq
    obtain ⟨t, n, sm, l⟩ := q
    exact zg_row_of hh hq (Nat.blt_eq.mp hp)
  · cases hp
theorem zgP_c {e f : zx_L} {v w : Int} (h : (fun (d : zx_L) => zx_isc d && decide (d.2 = 0)) (zx_sub e f) = true) (he : zx_ev ρ e = some v) (hf : zx_ev ρ f = some w) : v = w := by
  have h1 := zx_sub_ev he hf
  have h : (zx_isc (zx_sub e f) && decide ((zx_sub e f).2 = 0)) = true := h
  rw [Bool.and_eq_true, decide_eq_true_iff] at h
  have h2 := zx_isc_ev h.1 h1
  omega
theorem zgP1_ok (hG : zx_ok ρ G) (hh : zx_F2 (fun c q => zx_RC vwCl b ex ρ (zx_as ws) tys c q.2) h ws) {fH : Nat → Int32} (hH : zg_row ws 2 fH) {lh w : zx_L} {lv wv : Int} (hlh : zx_ev ρ lh = some lv) (hw : zx_ev ρ w = some wv) : ∀ {l : List (zx_L × zx_V)}, (∀ q ∈ l, q ∈ zg_rw h 2) → zgP1 G lh w l = true → lv + (fH wv.toNat).toInt ≤ 24
  | [], _, hc => nomatch hc
  | q :: r, hm, hc => by
    rw [zgP1, Bool.or_eq_true] at hc
    rcases hc with hc | hc
    · split at hc
      · rename_i hv hq
        rw [Bool.and_eq_true] at hc
        have h1 : (q.1, .inl hv) ∈ zg_rw h 2 := by
          rw [← hq]
          exact hm q List.mem_cons_self
        obtain ⟨n, h2, h3⟩ := zg_rw_ok hh hH h1
        have h4 := zgP_c hc.1 h2 hw
        have h5 := zg_xb_ok hG hc.2 (zx_sub_ev hlh (zx_sub_ev zx_ev_c' h3))
        have h6 : wv.toNat = n := by omega
        rw [h6]
        omega
      · cases hc
    · exact zgP1_ok hG hh hH hlh hw (fun q hq => hm q (List.mem_cons_of_mem _ hq)) hc
theorem zgP2_ok (hG : zx_ok ρ G) (hh : zx_F2 (fun c q => zx_RC vwCl b ex ρ (zx_as ws) tys c q.2) h ws) {fW fH : Nat → Int32} (hW : zg_row ws 68 fW) (hH : zg_row ws 2 fH) {lh : zx_L} {lv : Int} (hlh : zx_ev ρ lh = some lv) {k : Nat} : ∀ {l : List (zx_L × zx_V)}, (∀ q ∈ l, q ∈ zg_rw h 68) → zgP2 G h lh k l = true → lv + (fH (fW k).toInt.toNat).toInt ≤ 24
  | [], _, hc => nomatch hc
  | q :: r, hm, hc => by
    rw [zgP2, Bool.or_eq_true] at hc
    rcases hc with hc | hc
    · split at hc
      · rename_i w hq
        rw [Bool.and_eq_true] at hc
        have h1 : (q.1, .inl w) ∈ zg_rw h 68 := by
          rw [← hq]
          exact hm q List.mem_cons_self
        obtain ⟨n, h2, h3⟩ := zg_rw_ok hh hW h1
        have h4 := zgP_c hc.1 h2 zx_ev_c'
        have h5 : n = k := by omega
        subst h5
        exact zgP1_ok hG hh hH hlh h3 (fun _ h => h) hc.2
      · cases hc
    · exact zgP2_ok hG hh hW hH hlh (fun q hq => hm q (List.mem_cons_of_mem _ hq)) hc
end ZGPS
theorem zgP_ok {b : Nat} {ex : List Nat} {ρ : List Int} {tys : List (ClassId × FieldType)} {ws : va_W} {o : zx_Ou} (hp : zgP o = true) (hG : zx_ok ρ o.1) (hh : zx_F2 (fun c q => zx_RC vwCl b ex ρ (zx_as ws) tys c q.2) o.2.1 ws) : zgR1e ws := by
  unfold zgP at hp
  split at hp
  case h_2 => cases hp
  rename_i lm lh t lt e1 e2 e3 e4
  simp only [Bool.and_eq_true] at hp
  obtain ⟨⟨h1, h2⟩, ⟨h3, h4⟩, h5⟩ := hp
  obtain ⟨lmv, f1, g1⟩ := zg_fe_ok hh e1
  obtain ⟨lhv, f2, g2⟩ := zg_fe_ok hh e2
  obtain ⟨tv, f3, g3⟩ := zg_fe_ok hh e3
  obtain ⟨ltv, f4, g4⟩ := zg_fe_ok hh e4
  obtain ⟨fW, r1⟩ := zgPr_ok hh h3
  obtain ⟨fH, r2⟩ := zgPr_ok hh h4
  have hb := zg_xb_ok hG h2 (zx_sub_ev g3 g4)
  refine ⟨fW, fH, lmv, lhv, tv, ltv, r1, r2, f1, f2, f3, f4, by omega, fun _ k hk => ?_⟩
  have hl : lmv = lm.2 := zx_isc_ev h1 g1
  exact zgP2_ok hG hh r1 r2 g2 (fun _ h => h) (List.all_eq_true.mp h5 k (List.mem_range.mpr (by omega)))
end
