noncomputable section
section ZFE
variable {l : Launch} {cl : List vw_C} {Ts nw : List Jvm.Cond} {sts : List (String × String × String × Nat)} {Y : zx_Y} {aos : List String} {PR : zx_PR} {rmt : List (Nat × Nat)}
/-- a method from its entry on; what is done at the places where the run is cut is given -/
theorem zf_enter {X : List Int → va_W → Prop} (hYI : zx_YI Y) (hXI : ∀ ρ ws, X ρ ws → Y.2.2 ws) {dt : List (List Nat)} {P : List (Option zx_MD)} {n d : Nat} {f : zx_Fn} {stp : Nat → Bool} (hPK : zx_PK cl Ts nw sts aos PR rmt P) (hCK : zx_CK cl Ts dt) (harr : ∀ ty ∈ [FieldType.int, FieldType.byte, FieldType.boolean, FieldType.long], Jvm.Cond.arrayClass ty ∈ Ts) (hgw : Ts.all goodWord = true) (hnk : nw.all zx_nk = true) (ih : zx_FOK l cl Ts nw sts Y aos PR rmt d f) {j : Nat} {md : zx_MD} (hP : P[j]? = some (some md)) {G0 : zx_G} {h0 : List zx_C} {as0 : List zx_V} {outs : List zx_Ou} {lo : List zx_Os} (hcats : zx_cats as0 ≤ zx_mV md.2.1) (hlo : zx_ex Y dt rmt stp md f n md.1 G0 h0 (zx_args 0 as0) (0, 0) [] = some lo) (hl1 : ∀ o, .inl o ∈ lo → zw_E G0.length o outs = true)
    (hcont : ∀ (p : Program) (e : Env) (s : State) (mi : MethodId) (args : Array Value) (below : List Frame) (meth : Method) (c : Code) (Q : State → Prop) (D : va_G) (A : Nat → Prop) (b : Nat) (ex : List Nat) (nL : Nat) (own : String) (cc : ByteArray) (ρ : List Int) (tys : List (ClassId × FieldType)) (ws : va_W), X ρ ws → zx_ok ρ G0 → zx_F2 (fun c q => zx_RC cl b ex ρ (zx_as ws) tys c q.2) h0 ws → zx_FX p s mi args meth c ({ frames := d + 1, cells := (zx_mR md.2.1).1, slots := (zx_mR md.2.1).2, locals := 100 * (d + 1) } : Room) cc own Ts nw cl A ex nL sts Y aos dt md.2.1 → zx_LK own cl Ts nw PR md.2.2.1 → c.maxLocals = nL → zx_TB cc md.1 → zx_YO Y (ws, Y.2.1) → (∀ r : List Int, zx_SX b (fun _ => 0) A s md.2.1 (ρ ++ r)) → zw_KE p l e ({ frames := d + 1, cells := (zx_mR md.2.1).1, slots := (zx_mR md.2.1).2, locals := 100 * (d + 1) } : Room) s mi args below meth c Q D cl A b ex (ws, Y.2.1) cc md.2.2.2 (zx_mR md.2.1) ρ outs → ∀ q, .inr q ∈ lo → ∀ (r2 : List Int) (H' : Heap) (locs' : List Loc) (ls' : Array Slot) (kc' : List Value), zx_J D cl A b ex (ws, Y.2.1) nL s (ρ ++ r2) q.2.1 q.2.2.1 q.2.2.2.1 q.2.2.2.2.1 H' locs' ls' kc' → W p l e ({ frames := d + 1, cells := (zx_mR md.2.1).1, slots := (zx_mR md.2.1).2, locals := 100 * (d + 1) } : Room) s mi args below meth c H' locs' q.2.2.2.2.2.1 q.2.2.2.2.2.2 Q (F0 mi q.1 ls' kc')) : zw_ENX l cl Ts nw sts Y aos PR rmt (d + 1) j G0 h0 as0 outs X := by
  intro y cc maxL ret rm hPR hrm D A b ex ρ tys ws sz av hG hh ha hA hX
  have hYO := zx_YO_of hYI (hXI ρ ws hX)
  obtain ⟨k1, k2, k3, k4, k5, k6, k7, k8, k9, x, nx, k10, k11⟩ := hPK j md y cc maxL ret rm hP hPR hrm
  refine Met.ofW (cc := cc) (maxL := maxL) (ret := ret) k1 rfl ?_
  intro p e s m args below meth c s₁ B hml hv
  obtain ⟨rfl, hsz, hP, hK, hD, hCX, hnw, hao⟩ := hv
  have hx := B.exec
  have hb := B.bytes
  have hr := B.returns
  have hts0 := atoms_spec (ws := Jvm.Cond.code y cc maxL ret :: Ts) B.pre
  have hts : ∀ w ∈ Ts, w.before av.toArray s = true := fun w hw => hts0 w (List.mem_cons_of_mem _ hw)
  have hown : s.vm.findClass y.cls = some m.cls := findClass_of_methodNamed B.named
  have hlocks := B.notSynchronized
  have hin : meth.name = y.name := (name_of_methodNamed B.named B.method).1
  have hA' : ∀ q, s.heap.size ≤ q → A q := fun q hq => hA q (by rw [← hsz]; exact hq)
  have F : zx_FX p s m av.toArray meth c ({ frames := d + 1, cells := rm.1, slots := rm.2, locals := 100 * (d + 1) } : Room) cc y.cls Ts nw cl A ex maxL sts Y aos dt md.2.1 :=
    ⟨hx, hb, hown, hts, hnw, hA', ⟨by rw [k2], by rw [k2]⟩, fun q => by rw [hin]; exact k5 q, k3, hCX, hao, hCK, k6⟩
  have hl := lv_entry av (n := maxL) (by rw [zx_words ha, ← k3]; exact hcats)
  rw [lg_entry_eq]
  generalize (lg_sl av ++ List.replicate (maxL - (lg_sl av).length) Slot.unset).toArray = ls at hl ⊢
  have J : zx_J D cl A b ex (ws, Y.2.1) maxL s ρ G0 h0 (zx_args 0 as0) [] s.heap [] ls [] :=
    ⟨hG, tys, ws, lv_args 0 av, hK, hP, hD, ⟨va_S.rf, zx_KP_rf ws Y.2.1⟩, hh, zx_args_ok 0 ha, hl, trivial⟩
  have hlo0 := hlo
  rw [k10] at hlo
  have gol : W p l e ({ frames := d + 1, cells := rm.1, slots := rm.2, locals := 100 * (d + 1) } : Room) s m av.toArray below meth c s.heap [] 0 0 (MQ below (zx_Qc D cl A b ex ρ ws Y.2.1 outs) av.toArray s rm.1 rm.2 A) (F0 m x.1 ls []) → W p l e (headSpec (Jvm.Cond.code y cc maxL ret :: Ts) ({ frames := d + 1, cells := rm.1, slots := rm.2, locals := 100 * (d + 1) } : Room)).room s m av.toArray below meth c s.heap [] 0 0 (MQ below (zx_Qc D cl A b ex ρ ws Y.2.1 outs) av.toArray s rm.1 rm.2 A) (F0 m 0 ls []) := by
    intro g; rw [k11] at g; exact g
  refine gol ?_
  have KE : zw_KE p l e ({ frames := d + 1, cells := rm.1, slots := rm.2, locals := 100 * (d + 1) } : Room) s m av.toArray below meth c (MQ below (zx_Qc D cl A b ex ρ ws Y.2.1 outs) av.toArray s rm.1 rm.2 A) D cl A b ex (ws, Y.2.1) cc md.2.2.2 (zx_mR md.2.1) ρ outs := by
    intro o o0 ρ1 r' ho0 H' locs' ls' kc' pc' k' ir tys' ws' g1 g2 g3 g4 g5 g6 g8 g9 g10 g11 q1 q2 q3
    rw [k2] at g8 g9
    refine W.widen (k := rm.1) (n := rm.2) g8 g9 ?_
    have fin : ∀ (v : Option Value), zx_rv b ex ρ1 (zx_as ws') o.2.2 v → ∀ t : State, t.heap = H' → s.WarmedH t.vm → zx_Qc D cl A b ex ρ ws Y.2.1 outs av.toArray s (.returned v) t := by
      intro v hv t ht hW
      exact ⟨⟨o0, ho0, v, r', tys', ws', rfl, q1, va_K.moved hW.alike g2, by rw [ht]; exact g3, g4, g6, q2, q3 v hv⟩, g5.F ht⟩
    rcases g11 with ⟨rfl, e1, rfl, e2⟩ | ⟨rfl, e1, w, e2, rfl, e3, e4⟩ | ⟨rfl, q, x1, e2, rfl, e3, e4⟩ | ⟨rfl, w, e2, rfl, e4⟩
    · have hrn : ret = none := by
        cases ret with
        | none => rfl
        | some ty => exact absurd e2 k9.2.1
      subst hrn
      exact W.vret hx hb hr (fin none (by rw [e1]; exact trivial)) g5.2.2 g10
    · cases ret with
      | none =>
        have k9 : md.2.2.2 = 4 := k9
        rw [k9] at e4
        exact (zx_fit4 e4).elim
      | some ty =>
        have hx1 : zx_R b ex ρ1 (zx_as ws') (.inl e1) (.int w) := ⟨w, rfl, e3⟩
        have hn := (zx_fit_ok (ty := ty) g1 (by rw [k9.1]; exact e4) hx1).1
        exact W.zret hx hb hr hn (fin (some (.int w)) (by rw [e2]; exact hx1)) g5.2.2 g10
    · cases ret with
      | none =>
        have k9 : md.2.2.2 = 4 := k9
        rw [k9] at e4; cases e4
      | some ty =>
        have hty : (∃ n, ty = .object n) ∨ ∃ t, ty = .array t := by
          have h9 := k9.1
          rw [e4] at h9
          cases ty <;> first | exact Or.inl ⟨_, rfl⟩ | exact Or.inr ⟨_, rfl⟩ | cases h9
        have hvx : x1 = .null ∨ ∃ a, x1 = .ref a := by
          rcases e3 with ⟨-, h1⟩ | ⟨i, a, -, -, h1⟩
          · exact Or.inl h1
          · exact Or.inr ⟨a, h1⟩
        exact W.aret hx hb hr hty hvx (fin (some x1) (by rw [e2]; exact e3)) g5.2.2 g10
    · cases ret with
      | none =>
        have k9 : md.2.2.2 = 4 := k9
        rw [k9] at e4; cases e4
      | some ty =>
        have hty : ty = .long := by
          have h9 := k9.1
          rw [e4] at h9
          cases ty <;> first | rfl | cases h9
        subst hty
        exact W.lret hx hb hr (fin (some (.long w)) (by rw [e2]; exact ⟨w, rfl⟩)) g5.2.2 g10
  have hS0 : ∀ r : List Int, zx_SX b (fun _ => 0) A s md.2.1 (ρ ++ r) := fun r q => by rw [k4] at q; cases q
  refine zx_ex_ok (xs := fun _ => 0) (md := md) (f := f) hYO F harr ih k7 hgw hnk ⟨Nat.le_refl _, Nat.le_refl _⟩ hml k8 n x nx ρ G0 h0 (zx_args 0 as0) (0, 0) [] lo s.heap [] ls [] (by have := hS0 []; rwa [List.append_nil] at this) (fun y hy => by rw [k10]; exact hy) J hlo ⟨?_, ?_⟩
  · intro o ho r2 H' locs' ls' kc' pc' k' ir tys' ws' g1 g2 g3 g4 g5 g6 g7 g8 g9 g10 g11
    exact zw_end_ok hG.1 KE (hl1 o ho) g1 g2 g3 g4 g5 g6 g7 g8 g9 g10 g11
  · intro q hq r2 H' locs' ls' kc' J'
    have h9 := hcont p e s m av.toArray below meth c (MQ below (zx_Qc D cl A b ex ρ ws Y.2.1 outs) av.toArray s rm.1 rm.2 A) D A b ex maxL y.cls cc ρ tys ws hX hG hh (by rw [k2]; exact F) k7 hml k8 hYO hS0 (by rw [k2] at KE ⊢; exact KE) q hq r2 H' locs' ls' kc' J'
    rw [k2] at h9
    exact h9
end ZFE
end
