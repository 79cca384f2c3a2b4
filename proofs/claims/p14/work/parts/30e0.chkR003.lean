/-- OperaHouseModel.placeOf, moved, as contracts of their own -/
def vERp : zw_En := (204, [((0, 624), none), ((0, 3), none)], [], [.inl ([(0, 1)], 0), .inl ([(1, 1)], 0)], [([((0, 624), none), ((0, 3), none), ((0, 4), none)], [], some (.inl ([(2, 1)], 0)))], [], false)
def vERm : zw_En := (207, [((0, 624), none), ((0, 3), none), ((0, 4), none)], [], [.inl ([(0, 1)], 0), .inl ([(1, 1)], 0), .inl ([(2, 1)], 0)], [([((0, 624), none), ((0, 3), none), ((0, 4), none), ((0, 624), none)], [], some (.inl ([(3, 1)], 0)))], [], false)
def vjsG : List Nat := [137, 139, 140, 142, 144, 146, 147, 170, 171, 173, 176, 179, 180, 181, 182, 183, 184, 185, 187, 188, 190, 191, 193, 198, 199, 200, 201, 202, 203, 204, 205, 207, 208, 209, 210, 212, 215, 216, 217, 218, 223, 224, 225, 226, 228, 230, 231, 234, 236, 237, 238, 239, 240, 242]
set_option maxRecDepth 1000000 in
theorem vkRp : zv_chk zx_Yt zx_dt zx_rmt zx_Pt vjsR [] vERp [] = true := by decide +kernel
def vERm00 : zw_En := (207, [((0, 624), none)], [], [.inl ([(0, 1)], 0), .inl ([], 0), .inl ([], 0)], [([((0, 624), none), ((0, 624), none)], [], some (.inl ([(1, 1)], 0)))], [], false)
set_option maxRecDepth 1000000 in
theorem vkRm00 : zv_chk zx_Yt zx_dt zx_rmt zx_Pt vjsR [] vERm00 [] = true := by decide +kernel
def vERm01 : zw_En := (207, [((0, 624), none)], [], [.inl ([(0, 1)], 0), .inl ([], 0), .inl ([], 1)], [([((0, 624), none), ((0, 624), none)], [], some (.inl ([(1, 1)], 0)))], [], false)
set_option maxRecDepth 1000000 in
theorem vkRm01 : zv_chk zx_Yt zx_dt zx_rmt zx_Pt vjsR [] vERm01 [] = true := by decide +kernel
def vERm02 : zw_En := (207, [((0, 624), none)], [], [.inl ([(0, 1)], 0), .inl ([], 0), .inl ([], 2)], [([((0, 624), none), ((0, 624), none)], [], some (.inl ([(1, 1)], 0)))], [], false)
set_option maxRecDepth 1000000 in
theorem vkRm02 : zv_chk zx_Yt zx_dt zx_rmt zx_Pt vjsR [] vERm02 [] = true := by decide +kernel
def vERm03 : zw_En := (207, [((0, 624), none)], [], [.inl ([(0, 1)], 0), .inl ([], 0), .inl ([], 3)], [([((0, 624), none), ((0, 624), none)], [], some (.inl ([(1, 1)], 0)))], [], false)
set_option maxRecDepth 1000000 in
theorem vkRm03 : zv_chk zx_Yt zx_dt zx_rmt zx_Pt vjsR [] vERm03 [] = true := by decide +kernel
def vERm04 : zw_En := (207, [((0, 624), none)], [], [.inl ([(0, 1)], 0), .inl ([], 0), .inl ([], 4)], [([((0, 624), none), ((0, 624), none)], [], some (.inl ([(1, 1)], 0)))], [], false)
set_option maxRecDepth 1000000 in
theorem vkRm04 : zv_chk zx_Yt zx_dt zx_rmt zx_Pt vjsR [] vERm04 [] = true := by decide +kernel
def vERm10 : zw_En := (207, [((0, 624), none)], [], [.inl ([(0, 1)], 0), .inl ([], 1), .inl ([], 0)], [([((0, 624), none), ((0, 624), none)], [], some (.inl ([(1, 1)], 0)))], [], false)
set_option maxRecDepth 1000000 in
theorem vkRm10 : zv_chk zx_Yt zx_dt zx_rmt zx_Pt vjsR [] vERm10 [] = true := by decide +kernel
def vERm11 : zw_En := (207, [((0, 624), none)], [], [.inl ([(0, 1)], 0), .inl ([], 1), .inl ([], 1)], [([((0, 624), none), ((0, 624), none)], [], some (.inl ([(1, 1)], 0)))], [], false)
set_option maxRecDepth 1000000 in
theorem vkRm11 : zv_chk zx_Yt zx_dt zx_rmt zx_Pt vjsR [] vERm11 [] = true := by decide +kernel
def vERm12 : zw_En := (207, [((0, 624), none)], [], [.inl ([(0, 1)], 0), .inl ([], 1), .inl ([], 2)], [([((0, 624), none), ((0, 624), none)], [], some (.inl ([(1, 1)], 0)))], [], false)
set_option maxRecDepth 1000000 in
theorem vkRm12 : zv_chk zx_Yt zx_dt zx_rmt zx_Pt vjsR [] vERm12 [] = true := by decide +kernel
def vERm13 : zw_En := (207, [((0, 624), none)], [], [.inl ([(0, 1)], 0), .inl ([], 1), .inl ([], 3)], [([((0, 624), none), ((0, 624), none)], [], some (.inl ([(1, 1)], 0)))], [], false)
set_option maxRecDepth 1000000 in
theorem vkRm13 : zv_chk zx_Yt zx_dt zx_rmt zx_Pt vjsR [] vERm13 [] = true := by decide +kernel
def vERm14 : zw_En := (207, [((0, 624), none)], [], [.inl ([(0, 1)], 0), .inl ([], 1), .inl ([], 4)], [([((0, 624), none), ((0, 624), none)], [], some (.inl ([(1, 1)], 0)))], [], false)
set_option maxRecDepth 1000000 in
theorem vkRm14 : zv_chk zx_Yt zx_dt zx_rmt zx_Pt vjsR [] vERm14 [] = true := by decide +kernel
def vERm20 : zw_En := (207, [((0, 624), none)], [], [.inl ([(0, 1)], 0), .inl ([], 2), .inl ([], 0)], [([((0, 624), none), ((0, 624), none)], [], some (.inl ([(1, 1)], 0)))], [], false)
set_option maxRecDepth 1000000 in
theorem vkRm20 : zv_chk zx_Yt zx_dt zx_rmt zx_Pt vjsR [] vERm20 [] = true := by decide +kernel
def vERm21 : zw_En := (207, [((0, 624), none)], [], [.inl ([(0, 1)], 0), .inl ([], 2), .inl ([], 1)], [([((0, 624), none), ((0, 624), none)], [], some (.inl ([(1, 1)], 0)))], [], false)
set_option maxRecDepth 1000000 in
theorem vkRm21 : zv_chk zx_Yt zx_dt zx_rmt zx_Pt vjsR [] vERm21 [] = true := by decide +kernel
def vERm22 : zw_En := (207, [((0, 624), none)], [], [.inl ([(0, 1)], 0), .inl ([], 2), .inl ([], 2)], [([((0, 624), none), ((0, 624), none)], [], some (.inl ([(1, 1)], 0)))], [], false)
set_option maxRecDepth 1000000 in
theorem vkRm22 : zv_chk zx_Yt zx_dt zx_rmt zx_Pt vjsR [] vERm22 [] = true := by decide +kernel
def vERm23 : zw_En := (207, [((0, 624), none)], [], [.inl ([(0, 1)], 0), .inl ([], 2), .inl ([], 3)], [([((0, 624), none), ((0, 624), none)], [], some (.inl ([(1, 1)], 0)))], [], false)
set_option maxRecDepth 1000000 in
theorem vkRm23 : zv_chk zx_Yt zx_dt zx_rmt zx_Pt vjsR [] vERm23 [] = true := by decide +kernel
def vERm24 : zw_En := (207, [((0, 624), none)], [], [.inl ([(0, 1)], 0), .inl ([], 2), .inl ([], 4)], [([((0, 624), none), ((0, 624), none)], [], some (.inl ([(1, 1)], 0)))], [], false)
set_option maxRecDepth 1000000 in
theorem vkRm24 : zv_chk zx_Yt zx_dt zx_rmt zx_Pt vjsR [] vERm24 [] = true := by decide +kernel
def vERm30 : zw_En := (207, [((0, 624), none)], [], [.inl ([(0, 1)], 0), .inl ([], 3), .inl ([], 0)], [([((0, 624), none), ((0, 624), none)], [], some (.inl ([(1, 1)], 0)))], [], false)
set_option maxRecDepth 1000000 in
theorem vkRm30 : zv_chk zx_Yt zx_dt zx_rmt zx_Pt vjsR [] vERm30 [] = true := by decide +kernel
def vERm31 : zw_En := (207, [((0, 624), none)], [], [.inl ([(0, 1)], 0), .inl ([], 3), .inl ([], 1)], [([((0, 624), none), ((0, 624), none)], [], some (.inl ([(1, 1)], 0)))], [], false)
set_option maxRecDepth 1000000 in
theorem vkRm31 : zv_chk zx_Yt zx_dt zx_rmt zx_Pt vjsR [] vERm31 [] = true := by decide +kernel
def vERm32 : zw_En := (207, [((0, 624), none)], [], [.inl ([(0, 1)], 0), .inl ([], 3), .inl ([], 2)], [([((0, 624), none), ((0, 624), none)], [], some (.inl ([(1, 1)], 0)))], [], false)
set_option maxRecDepth 1000000 in
theorem vkRm32 : zv_chk zx_Yt zx_dt zx_rmt zx_Pt vjsR [] vERm32 [] = true := by decide +kernel
def vERm33 : zw_En := (207, [((0, 624), none)], [], [.inl ([(0, 1)], 0), .inl ([], 3), .inl ([], 3)], [([((0, 624), none), ((0, 624), none)], [], some (.inl ([(1, 1)], 0)))], [], false)
set_option maxRecDepth 1000000 in
theorem vkRm33 : zv_chk zx_Yt zx_dt zx_rmt zx_Pt vjsR [] vERm33 [] = true := by decide +kernel
def vERm34 : zw_En := (207, [((0, 624), none)], [], [.inl ([(0, 1)], 0), .inl ([], 3), .inl ([], 4)], [([((0, 624), none), ((0, 624), none)], [], some (.inl ([(1, 1)], 0)))], [], false)
set_option maxRecDepth 1000000 in
theorem vkRm34 : zv_chk zx_Yt zx_dt zx_rmt zx_Pt vjsR [] vERm34 [] = true := by decide +kernel
set_option maxRecDepth 1000000 in
theorem vkR23_e : zv_ce zx_Yt zx_dt zx_rmt zx_Pt vjsG [vERp, vERm] vER23 vHR23 = true := by decide +kernel
set_option maxRecDepth 1000000 in
theorem vkR23_0 : zv_ch zx_Yt zx_dt zx_rmt zx_Pt vjsG [vERp, vERm] vER23 vHR23 vHR23_0 = true := by decide +kernel
set_option maxRecDepth 1000000 in
theorem vkR23_1 : zv_ch zx_Yt zx_dt zx_rmt zx_Pt vjsG [vERp, vERm] vER23 vHR23 vHR23_1 = true := by decide +kernel
set_option maxRecDepth 1000000 in
theorem vkR23_2 : zv_ch zx_Yt zx_dt zx_rmt zx_Pt vjsG [vERp, vERm] vER23 vHR23 vHR23_2 = true := by decide +kernel
/-- moved out of its twenty contracts with constants -/
theorem vERm_c {l : Launch} {s0 t0 : Int} (h : vN l 9 (207, [((0, 624), none)], [], [.inl ([(0, 1)], 0), .inl ([], s0), .inl ([], t0)], [([((0, 624), none), ((0, 624), none)], [], some (.inl ([(1, 1)], 0)))], [], false)) (hs : 0 ≤ s0 ∧ s0 ≤ 3) (ht : 0 ≤ t0 ∧ t0 ≤ 4) : vN l 9 (207, [((0, 624), none), ((s0, s0), none), ((t0, t0), none)], [], [.inl ([(0, 1)], 0), .inl ([(1, 1)], 0), .inl ([(2, 1)], 0)], [([((0, 624), none), ((0, 3), none), ((0, 4), none), ((0, 624), none)], [], some (.inl ([(3, 1)], 0)))], [], false) := by
  intro y cc maxL ret rm h1 h2 D A b ex ρ tys ws sz av h4 h5 h6 h7 h8
  match ρ, h4, h5, h6 with
  | [], h4, _, _ => exact absurd h4.1 (by simp)
  | [_], h4, _, _ => exact absurd h4.1 (by simp)
  | [_, _], h4, _, _ => exact absurd h4.1 (by simp)
  | _ :: _ :: _ :: _ :: _, h4, _, _ => exact absurd h4.1 (by simp)
  | [k, s, t], h4, h5, h6 =>
    have hk : 0 ≤ k ∧ k ≤ 624 ∧ _ := h4.2 0 k ((0, 624), none) rfl rfl
    have hs1 : s0 ≤ s ∧ s ≤ s0 ∧ _ := h4.2 1 s ((s0, s0), none) rfl rfl
    have ht1 : t0 ≤ t ∧ t ≤ t0 ∧ _ := h4.2 2 t ((t0, t0), none) rfl rfl
    have es : s = s0 := Int.le_antisymm hs1.2.1 hs1.1
    have et : t = t0 := Int.le_antisymm ht1.2.1 ht1.1
    subst es
    subst et
    have q1 : zx_ev [k, s, t] ([(1, 1)], 0) = some s := zx_ev_iff.mpr ⟨1 * s + 0, zx_evl_cons.mpr ⟨s, 0, rfl, rfl, rfl⟩, by show s = 1 * s + 0 + 0; omega⟩
    have q2 : zx_ev [k, s, t] ([(2, 1)], 0) = some t := zx_ev_iff.mpr ⟨1 * t + 0, zx_evl_cons.mpr ⟨t, 0, rfl, rfl, rfl⟩, by show t = 1 * t + 0 + 0; omega⟩
    have q3 : ∀ x : Int, zx_ev [k] ([], x) = some x := fun x => zx_ev_iff.mpr ⟨0, rfl, by show x = 0 + x; omega⟩
    have g6 : zx_F2 (zx_R b ex [k] (zx_as ws)) [.inl ([(0, 1)], 0), .inl ([], s), .inl ([], t)] av := by
      match av, h6 with
      | [_, _, _], ⟨a1, a2, a3, _⟩ =>
        obtain ⟨w2, f2, g2⟩ := a2
        obtain ⟨w3, f3, g3⟩ := a3
        exact ⟨a1, ⟨w2, f2, (q3 s).trans (q1.symm.trans g2)⟩, ⟨w3, f3, (q3 t).trans (q2.symm.trans g3)⟩, trivial⟩
    have g5 : zx_F2 (fun c q => zx_RC vwCl b ex [k] (zx_as ws) tys c q.2) [] ws := by
      cases ws with
      | nil => trivial
      | cons a r => exact h5.elim
    have g4 : zx_ok [k] [((0, 624), none)] := ⟨rfl, fun i v b hv hb => by
      match i, hv, hb with
      | 0, hv, hb => cases hv; cases hb; exact ⟨hk.1, hk.2.1, fun e he => nomatch he⟩
      | n + 1, hv, hb => simp at hv⟩
    refine zx_Met_imp (h y cc maxL ret rm h1 h2 D A b ex [k] tys ws sz av g4 g5 g6 h7 h8) ⟨Nat.le_refl _, Nat.le_refl _, Nat.le_refl _, Nat.le_refl _⟩ (fun _ _ h => ⟨h, fun _ q => q⟩) (fun _ _ _ _ _ hq _ => ?_)
    obtain ⟨⟨o, ho, v, r2, tys', ws', e1, e2, e3, e4, e5, e6, e7, e8⟩, e9⟩ := hq
    have ho := List.mem_singleton.mp ho
    subst ho
    match r2, e2, e7, e8 with
    | [], e2, _, _ => exact absurd e2.1 (by simp)
    | _ :: _ :: _, e2, _, _ => exact absurd e2.1 (by simp)
    | [x], e2, e7, e8 =>
      have hx : 0 ≤ x ∧ x ≤ 624 ∧ _ := e2.2 1 x ((0, 624), none) rfl rfl
      refine ⟨⟨_, List.mem_singleton.mpr rfl, v, [x], tys', ws', e1, ⟨rfl, fun i v b hv hb => ?_⟩, e3, e4, e5, e6, ?_, ?_⟩, e9⟩
      · match i, hv, hb with
        | 0, hv, hb => cases hv; cases hb; exact ⟨hk.1, hk.2.1, fun e he => nomatch he⟩
        | 1, hv, hb => cases hv; cases hb; exact ⟨hs.1, hs.2, fun e he => nomatch he⟩
        | 2, hv, hb => cases hv; cases hb; exact ⟨ht.1, ht.2, fun e he => nomatch he⟩
        | 3, hv, hb => cases hv; cases hb; exact ⟨hx.1, hx.2.1, fun e he => nomatch he⟩
        | n + 4, hv, hb => simp at hv
      · cases ws' with
        | nil => trivial
        | cons a r => exact e7.elim
      · cases v with
        | none => exact e8
        | some z =>
          obtain ⟨w, f, g⟩ := e8
          exact ⟨w, f, g⟩
theorem vERm_ok {l : Launch} : vN l 9 vERm := by
  intro y cc maxL ret rm h1 h2 D A b ex ρ tys ws sz av h4 h5 h6 h7 h8
  match ρ, h4, h5, h6 with
  | [], h4, _, _ => exact absurd h4.1 (by simp [vERm])
  | [_], h4, _, _ => exact absurd h4.1 (by simp [vERm])
  | [_, _], h4, _, _ => exact absurd h4.1 (by simp [vERm])
  | _ :: _ :: _ :: _ :: _, h4, _, _ => exact absurd h4.1 (by simp [vERm])
  | [k, s, t], h4, h5, h6 =>
    have hk : 0 ≤ k ∧ k ≤ 624 ∧ _ := h4.2 0 k ((0, 624), none) rfl rfl
    have hs : 0 ≤ s ∧ s ≤ 3 ∧ _ := h4.2 1 s ((0, 3), none) rfl rfl
    have ht : 0 ≤ t ∧ t ≤ 4 ∧ _ := h4.2 2 t ((0, 4), none) rfl rfl
    have g4 : zx_ok [k, s, t] [((0, 624), none), ((s, s), none), ((t, t), none)] := ⟨rfl, fun i v b hv hb => by
      match i, hv, hb with
      | 0, hv, hb => cases hv; cases hb; exact ⟨hk.1, hk.2.1, fun e he => nomatch he⟩
      | 1, hv, hb => cases hv; cases hb; exact ⟨Int.le_refl _, Int.le_refl _, fun e he => nomatch he⟩
      | 2, hv, hb => cases hv; cases hb; exact ⟨Int.le_refl _, Int.le_refl _, fun e he => nomatch he⟩
      | n + 3, hv, hb => simp at hv⟩
    have h : vN l 9 (207, [((0, 624), none)], [], [.inl ([(0, 1)], 0), .inl ([], s), .inl ([], t)], [([((0, 624), none), ((0, 624), none)], [], some (.inl ([(1, 1)], 0)))], [], false) := by
      have ds : s = 0 ∨ s = 1 ∨ s = 2 ∨ s = 3 := by have a := hs.1; have b := hs.2.1; omega
      have dt : t = 0 ∨ t = 1 ∨ t = 2 ∨ t = 3 ∨ t = 4 := by have a := ht.1; have b := ht.2.1; omega
      clear h6 h5 g4 h4 hs ht hk
      rcases ds with rfl | rfl | rfl | rfl <;> rcases dt with rfl | rfl | rfl | rfl | rfl
      · exact vGo (d := 0) vOK_nil (vYI _) vkRm00
      · exact vGo (d := 0) vOK_nil (vYI _) vkRm01
      · exact vGo (d := 0) vOK_nil (vYI _) vkRm02
      · exact vGo (d := 0) vOK_nil (vYI _) vkRm03
      · exact vGo (d := 0) vOK_nil (vYI _) vkRm04
      · exact vGo (d := 0) vOK_nil (vYI _) vkRm10
      · exact vGo (d := 0) vOK_nil (vYI _) vkRm11
      · exact vGo (d := 0) vOK_nil (vYI _) vkRm12
      · exact vGo (d := 0) vOK_nil (vYI _) vkRm13
      · exact vGo (d := 0) vOK_nil (vYI _) vkRm14
      · exact vGo (d := 0) vOK_nil (vYI _) vkRm20
      · exact vGo (d := 0) vOK_nil (vYI _) vkRm21
      · exact vGo (d := 0) vOK_nil (vYI _) vkRm22
      · exact vGo (d := 0) vOK_nil (vYI _) vkRm23
      · exact vGo (d := 0) vOK_nil (vYI _) vkRm24
      · exact vGo (d := 0) vOK_nil (vYI _) vkRm30
      · exact vGo (d := 0) vOK_nil (vYI _) vkRm31
      · exact vGo (d := 0) vOK_nil (vYI _) vkRm32
      · exact vGo (d := 0) vOK_nil (vYI _) vkRm33
      · exact vGo (d := 0) vOK_nil (vYI _) vkRm34
    exact vERm_c h ⟨hs.1, hs.2.1⟩ ⟨ht.1, ht.2.1⟩ y cc maxL ret rm h1 h2 D A b ex [k, s, t] tys ws sz av g4 h5 h6 h7 h8
