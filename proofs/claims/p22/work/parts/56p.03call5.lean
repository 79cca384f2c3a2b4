noncomputable section
/-! zj: a call by hand in the law, what it answers told plainly; and what follows -/
def zj_ca5 (o o2 : Nat) (KK Kr : List Nat) (f : zx_Fn) (md : zx_MD) (m : Nat) (dC : List (Nat × (Int × Int))) (nds : zx_L → List zx_C → List zg_Nd) (tp : zx_L → zx_L) (th : zx_L → List zx_C → List zx_C) (pc ix : Nat) (en : zw_En) (T : zx_T) : Bool := match zgL_cl o KK md.2.1 md.2.2.1 ix en T.1 T.2.1 T.2.2.2.2 T.2.2.2.1 with
  | some z => z.1.all (fun u => match u.2.2 with
    | some (.inl eu) => Nat.beq u.2.1.length T.2.1.length && zg_o4 T.1.length (fun G1 => dC.all (zg_dr G1 (T.2.1.drop o2) ((th eu u.2.1).drop o2)) && zgL_rk o2 (th eu u.2.1) Kr f md m (nds eu u.2.1) (pc + 3) (G1, th eu u.2.1, T.2.2.1, .inl (tp eu) :: z.2.2.1, z.2.2.2)) u.1
    | _ => false)
  | none => false
section ZKX
variable {p : Program} {l : Launch} {e : Env} {R : Room} {s : State} {m : MethodId} {args : Array Value} {below : List Frame} {meth : Method} {c : Code} {Q : State → Prop} {D : va_G} {A : Nat → Prop} {b : Nat} {ex : List Nat} {ad0 : zx_A0} {nL : Nat} {own : String} {cc : ByteArray} {Kr : List Nat} {d : Nat} {md : zx_MD} {pc : Nat} {ws : va_W}
theorem zj_call5 (C : zgL_cx p R s m args meth c A ex nL own cc Kr d md) {f : zx_Fn} (hf : zx_FOK l vwCl zx_Ts zx_nw zx_sts (zw_YK zx_Yt Kr false) zx_aos zx_PRt zx_rmt d f) {xs : Nat → Int32} {o o2 ix mm : Nat} {KK : List Nat} (hK : ∀ i ∈ ad0.2, i ∈ KK) (hK2 : ∀ i ∈ ad0.2, i ∈ Kr) {en : zw_En} {X : List Value → va_W → Prop} {Z : List Value → va_W → Option Value → va_W → Prop} {ZW : List Value → Option Value → va_W → Prop} {T : zx_T} {dC : List (Nat × (Int × Int))} {nds : zx_L → List zx_C → List zg_Nd} {tp : zx_L → zx_L} {th : zx_L → List zx_C → List zx_C} {ρe r : List Int} (hm : ρe.length = mm) (hS : ∀ r, zx_SX b xs A s md.2.1 (ρe ++ r)) (hen : zg_EN l d en X Z) (hd : (pc, Instr.invokevirtual ix, 3) ∈ md.1) (hck : zj_ca5 o o2 KK Kr f md mm dC nds tp th pc ix en T = true) (hlen : o + en.2.2.1.length ≤ T.2.1.length)
    (KE : ∀ (u : zx_Ou) (r : List Int) (ws' : va_W), zgL_is1 u = true → zg_ed p l e R s m args below meth c Q D A b ex ad0 nL cc md.2.2.2 (zx_mR md.2.1) u (ρe ++ r) ws')
    (hX : ∀ av, zx_F2 (zx_R b ex (ρe ++ r) (zx_as ws)) (zgL_as o KK md ix en T) av → X av (zgL_bk o en.2.2.1.length ws))
    (hW : ∀ tys av, zx_F2 (fun c q => zx_RC vwCl b ex (ρe ++ r) (zx_as ws) tys c q.2) T.2.1 ws → zx_F2 (zx_R b ex (ρe ++ r) (zx_as ws)) (zgL_as o KK md ix en T) av → ∃ (XX : List Nat → List (ClassId × FieldType) → List Value → va_W → Prop) (Z0 : List Nat → List Value → va_W → Option Value → va_W → Prop), zj_W l d en.1 XX Z0 ∧ XX ex tys av ws ∧ ∀ v ws', Z0 ex av ws v ws' → ZW av v ws')
    (hT : ∀ (eu : zx_L) (av : List Value) (w : Int32) (r2 : List Int) (wsW : va_W), zx_F2 (zx_R b ex (ρe ++ r) (zx_as ws)) (zgL_as o KK md ix en T) av → zx_ev (ρe ++ (r ++ r2)) eu = some w.toInt → ZW av (some (.int w)) wsW → zx_ev (ρe ++ (r ++ r2)) (tp eu) = some w.toInt)
    (hH : ∀ (eu : zx_L) (uh : List zx_C) (av : List Value) (w : Int32) (ws1 : va_W) (r2 : List Int) (wsW : va_W) (tysB : List (ClassId × FieldType)), zx_F2 (zx_R b ex (ρe ++ r) (zx_as ws)) (zgL_as o KK md ix en T) av → zx_KP (ws, KK) ws1 → zx_ev (ρe ++ (r ++ r2)) eu = some w.toInt → ZW av (some (.int w)) wsW → zx_as wsW = zx_as ws → zx_as ws1 = zx_as ws → zj_eqo ws1 wsW → zx_F2 (fun c q => zx_RC vwCl b ex (ρe ++ (r ++ r2)) (zx_as ws1) tysB c q.2) uh ws1 → zx_F2 (fun c q => zx_RC vwCl b ex (ρe ++ (r ++ r2)) (zx_as ws1) tysB c q.2) (th eu uh) ws1)
    (hC : ∀ (eu : zx_L) (uh : List zx_C) (av : List Value) (w : Int32) (ws1 : va_W) (r2 : List Int), (∃ tysB : List (ClassId × FieldType), zx_F2 (fun c q => zx_RC vwCl b ex (ρe ++ (r ++ r2)) (zx_as ws1) tysB c q.2) uh ws1) → zx_F2 (zx_R b ex (ρe ++ r) (zx_as ws)) (zgL_as o KK md ix en T) av → zx_KP (ws, KK) ws1 → Z av (zgL_bk o en.2.2.1.length ws) (some (.int w)) (zgL_bk o en.2.2.1.length ws1) → (∃ wsW : va_W, zx_as wsW = zx_as ws ∧ ZW av (some (.int w)) wsW ∧ zj_eqo ws1 wsW) → zx_as ws1 = zx_as ws → zg_fs (ws.drop o2) (ws1.drop o2) dC → zx_ev (ρe ++ (r ++ r2)) eu = some w.toInt → ∀ t ∈ nds eu uh, ∀ (r' : List Int) (ws' : va_W), zx_KP (ws1, Kr) ws' → zg_fs (ws1.drop o2) (ws'.drop o2) t.2.2.1 → zg_os (ρe ++ (r ++ r2)) (ρe ++ r') t.2.2.2 → zg_go p l e R s m args below meth c Q D A b ex ad0 nL t.1 t.2.1 (ρe ++ r') ws') : zg_go p l e R s m args below meth c Q D A b ex ad0 nL pc T (ρe ++ r) ws := by
  unfold zgL_as at hX hW hT hH hC
  unfold zj_ca5 at hck
  split at hck
  case h_2 => cases hck
  rename_i z hz
  rw [hz] at hX hC hW hT hH
  obtain ⟨os, as', rk, k'⟩ := z
  refine zg_with (fun tysA hGA hhA => ?_)
  refine zj_callL C hK hen hd hz (fun av ha => hX av ha) (fun tys av hh ha => hW tys av hh ha) (fun u hu av v r2 ws1 ha kp hv hZ => ?_)
  obtain ⟨⟨ws2, e1, hZ⟩, hWW⟩ := hZ
  have h0 := List.all_eq_true.mp hck u hu
  obtain ⟨uG, uh, ur⟩ := u
  split at h0
  case h_2 => cases h0
  rename_i eu hu2
  have hu2 : ur = some (.inl eu) := hu2
  subst hu2
  rw [Bool.and_eq_true] at h0
  obtain ⟨w, rfl, hew⟩ : ∃ w : Int32, v = some (.int w) ∧ zx_ev (ρe ++ r ++ r2) eu = some w.toInt := by
    cases v with
    | none => exact hv.elim
    | some x =>
      obtain ⟨w, g1, g2⟩ := (hv : ∃ w : Int32, x = .int w ∧ zx_ev (ρe ++ r ++ r2) eu = some w.toInt)
      exact ⟨w, by rw [g1], g2⟩
  obtain ⟨wsW, hw1, hw2, hw3⟩ := hWW
  rw [List.append_assoc] at hew
  have htp := hT eu av w r2 wsW ha hew hw2
  have hul : uh.length = T.2.1.length := Nat.eq_of_beq_eq_true h0.1
  show zg_go p l e R s m args below meth c Q D A b ex ad0 nL (pc + 3) (uG, uh, T.2.2.1, .inl eu :: rk, k') (ρe ++ r ++ r2) ws1
  refine zj_top (tp eu) (fun w' hw' => ?_) ?_
  · rw [List.append_assoc] at hw' ⊢
    rw [hew] at hw'
    rw [htp, ← hw']
  refine zg_with (fun tys0 hG0 hh0 => ?_)
  have hh0 : zx_F2 (fun c q => zx_RC vwCl b ex (ρe ++ r ++ r2) (zx_as ws1) tys0 c q.2) uh ws1 := hh0
  rw [List.append_assoc] at hh0
  have hlw : ws1.length = ws.length := by rw [← zx_F2_len hh0, hul, zx_F2_len hhA]
  have haw : zx_as ws1 = zx_as ws := by
    obtain ⟨⟨xt, g1⟩, -⟩ := kp
    have g1 : zx_as ws1 = zx_as ws ++ xt := g1
    have g2 := congrArg List.length g1
    rw [List.length_append, zx_as, zx_as, List.length_map, List.length_map, hlw] at g2
    rw [List.eq_nil_of_length_eq_zero (by omega : xt.length = 0), List.append_nil] at g1
    exact g1
  refine zj_cells (h' := th eu uh) (fun tysB hhB => ?_) ?_
  · rw [List.append_assoc] at hhB ⊢
    exact hH eu uh av w ws1 r2 wsW tysB ha kp hew hw2 hw1 haw hw3 hhB
  refine zg_pcn (n0 := T.1.length) (fun G1 hG1 => ?_)
  have h1 := zg_o4_ok h0.2 hG1
  have h1 : (dC.all (zg_dr G1 (T.2.1.drop o2) ((th eu uh).drop o2)) && zgL_rk o2 (th eu uh) Kr f md mm (nds eu uh) (pc + 3) (G1, th eu uh, T.2.2.1, .inl (tp eu) :: rk, k')) = true := h1
  rw [Bool.and_eq_true] at h1
  refine zg_with (fun tysB hGB hhB => ?_)
  have hhB : zx_F2 (fun c q => zx_RC vwCl b ex (ρe ++ r ++ r2) (zx_as ws1) tysB c q.2) (th eu uh) ws1 := hhB
  have hl1 := zx_F2_len hhA
  have hZ2 : Z av (zgL_bk o en.2.2.1.length ws) (some (.int w)) (zgL_bk o en.2.2.1.length ws1) := by
    have h9 : zgL_bk o en.2.2.1.length ws1 = ws2 := by
      rw [e1]
      refine zgL_be_bk (by omega) ?_
      rw [← e1]
      omega
    rw [h9]
    exact hZ
  have hd1 := zgL_dr_ok hGB (zgL_drop o2 hhA) (zgL_drop o2 hhB) h1.1
  rw [List.append_assoc] at hhB ⊢
  refine zgL_run3 (o := o2) (xs := xs) C hK2 hf hm hS hhB h1.2 KE (fun t ht r' ws' kp' hfs hos => ?_)
  exact hC eu uh av w ws1 r2 ⟨tys0, hh0⟩ ha kp hZ2 ⟨wsW, hw1, hw2, hw3⟩ haw hd1 hew t ht r' ws' kp' hfs hos
end ZKX
end
