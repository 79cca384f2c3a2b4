noncomputable section
/-! lay's ends without what they say of the hour: that is for the hand -/
def zg_nq1 (x : Int) (b : zx_b) : zx_b := match b.2 with
  | some _ => if b.1.2 = x then (b.1, none) else b
  | none => b
def zg_nqs (x : Int) (G : zx_G) : zx_G := G.map (zg_nq1 x)
theorem zg_nq1_ok {x : Int} {b : zx_b} : (zg_nq1 x b).1 = b.1 ∧ ∀ e, (zg_nq1 x b).2 = some e → b.2 = some e := by
  unfold zg_nq1
  split
  · split
    · exact ⟨rfl, fun e h => by cases h⟩
    · exact ⟨rfl, fun e h => h⟩
  · exact ⟨rfl, fun e h => h⟩
theorem zg_nqs_ok {x : Int} {ρ : List Int} {G : zx_G} (hG : zx_ok ρ G) : zx_ok ρ (zg_nqs x G) := by
  refine ⟨by unfold zg_nqs; rw [List.length_map]; exact hG.1, fun i v b hv hb => ?_⟩
  unfold zg_nqs at hb
  rw [List.getElem?_map] at hb
  obtain ⟨b0, h0, e0⟩ := Option.map_eq_some_iff.mp hb
  subst e0
  obtain ⟨k1, k2, k3⟩ := hG.2 i v b0 hv h0
  obtain ⟨j1, j2⟩ := zg_nq1_ok (x := x) (b := b0)
  exact ⟨by rw [j1]; exact k1, by rw [j1]; exact k2, fun e he => k3 e (j2 e he)⟩
def zg_lw (x : Int) (en : zw_En) : zw_En := (en.1, en.2.1, en.2.2.1, en.2.2.2.1, en.2.2.2.2.1.map (fun u => (zg_nqs x u.1, u.2)), en.2.2.2.2.2.1, en.2.2.2.2.2.2)
theorem zg_EN_lw {x : Int} {l : Launch} {d : Nat} {en : zw_En} {X : List Value → va_W → Prop} {Z : List Value → va_W → Option Value → va_W → Prop} (h : zg_EN l d en X Z) : zg_EN l d (zg_lw x en) X Z := by
  intro y cc maxL ret rm h1 h2 D A b ex ρ tys ws sz av h4 h5 h6 h7 h8
  exact zx_Met_imp (h y cc maxL ret rm h1 h2 D A b ex ρ tys ws sz av h4 h5 h6 h7 h8) ⟨Nat.le_refl _, Nat.le_refl _, Nat.le_refl _, Nat.le_refl _⟩ (fun _ _ h => ⟨h, fun _ q => q⟩) (fun _ _ _ _ _ h _ => by
    obtain ⟨⟨o, ho, v, r2, tys', ws', e1, e2, e3, e4, e5, e6, e7, e8, e10⟩, e9⟩ := h
    exact ⟨⟨(zg_nqs x o.1, o.2), List.mem_map.mpr ⟨o, ho, rfl⟩, v, r2, tys', ws', e1, zg_nqs_ok e2, e3, e4, e5, e6, e7, e8, e10⟩, e9⟩)
/-! zgL: a call whose ends are checked one by one -/
def zgL_cu (o : Nat) (Kr : List Nat) (f : zx_Fn) (md : zx_MD) (m : Nat) (dC : List (Nat × (Int × Int))) (nds : List zg_Nd) (pc : Nat) (T : zx_T) (rk : List zx_V) (k : Nat × Nat) (u : zx_Ou) : Bool := Nat.beq u.2.1.length T.2.1.length && zg_o4 T.1.length (fun G1 => dC.all (zg_dr G1 (T.2.1.drop o) (u.2.1.drop o)) && zgL_rk o u.2.1 Kr f md m nds (pc + 3) (G1, u.2.1, T.2.2.1, u.2.2.toList ++ rk, k)) u.1
def zgL_cj (j : Nat) (o : Nat) (KK Kr : List Nat) (f : zx_Fn) (md : zx_MD) (m : Nat) (dC : List (Nat × (Int × Int))) (nds : List zg_Nd) (pc ix : Nat) (en : zw_En) (T : zx_T) : Bool := match zgL_cl o KK md.2.1 md.2.2.1 ix en T.1 T.2.1 T.2.2.2.2 T.2.2.2.1 with
  | some z => (match z.1[j]? with
    | some u => zgL_cu o Kr f md m dC nds pc T z.2.2.1 z.2.2.2 u
    | none => true)
  | none => false
def zgL_cn (n : Nat) (o : Nat) (KK Kr : List Nat) (f : zx_Fn) (md : zx_MD) (m : Nat) (dC : List (Nat × (Int × Int))) (nds : List zg_Nd) (pc ix : Nat) (en : zw_En) (T : zx_T) : Bool := match zgL_cl o KK md.2.1 md.2.2.1 ix en T.1 T.2.1 T.2.2.2.2 T.2.2.2.1 with
  | some z => Nat.ble z.1.length n
  | none => false
theorem zgL_ca_of {n o : Nat} {KK Kr : List Nat} {f : zx_Fn} {md : zx_MD} {m : Nat} {dC : List (Nat × (Int × Int))} {nds : List zg_Nd} {pc ix : Nat} {en : zw_En} {T : zx_T} (hn : zgL_cn n o KK Kr f md m dC nds pc ix en T = true) (h : ∀ j, j < n → zgL_cj j o KK Kr f md m dC nds pc ix en T = true) : zgL_ca o KK Kr f md m dC nds pc ix en T = true := by
  unfold zgL_cn at hn
  unfold zgL_ca
  split at hn
  case h_2 => cases hn
  rename_i z hz
  rw [hz]
  show z.1.all (zgL_cu o Kr f md m dC nds pc T z.2.2.1 z.2.2.2) = true
  refine List.all_eq_true.mpr (fun u hu => ?_)
  obtain ⟨j, hj, e⟩ := List.getElem_of_mem hu
  have h1 := h j (Nat.lt_of_lt_of_le hj (Nat.le_of_ble_eq_true hn))
  unfold zgL_cj at h1
  rw [hz] at h1
  have h2 : z.1[j]? = some u := by rw [List.getElem?_eq_getElem hj, e]
  have h1 : (match z.1[j]? with
    | some u => zgL_cu o Kr f md m dC nds pc T z.2.2.1 z.2.2.2 u
    | none => true) = true := h1
  rw [h2] at h1
  exact h1
end
set_option maxRecDepth 1000000 in
theorem vL_a1365_0 : zgL_cj 0 218 [238, 240, 241, 242] vLK vLf zx_mlw 8 [] [(23, vL_23, [(98, (0, 0)), (99, (0, 0)), (100, (0, 0)), (6, (0, 0))], [(([(67, 1)], 0), (([(7, 1)], 0), (6, 6)))])] 1365 131 (zg_lw 24 vER48) vL_h1365 = true := by decide +kernel
set_option maxRecDepth 1000000 in
theorem vL_a1365_1 : zgL_cj 1 218 [238, 240, 241, 242] vLK vLf zx_mlw 8 [] [(23, vL_23, [(98, (0, 0)), (99, (0, 0)), (100, (0, 0)), (6, (0, 0))], [(([(67, 1)], 0), (([(7, 1)], 0), (6, 6)))])] 1365 131 (zg_lw 24 vER48) vL_h1365 = true := by decide +kernel
