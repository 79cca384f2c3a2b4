noncomputable section
/-! zx: calls -/
def zx_rv (b : Nat) (ex : List Nat) (ρ : List Int) (ad : List Nat) (o : Option zx_V) (v : Option Value) : Prop := match o, v with
  | none, none => True
  | some a, some x => zx_R b ex ρ ad a x
  | _, _ => False
abbrev zx_PR : Type := List (MethodName × ByteArray × Nat × Option FieldType)
/-- what a state has beside the cells -/
def zx_EV (ex : List Nat) (A : Nat → Prop) (sts : List (String × String × String × Nat)) (Y : zx_Y) (nw : List Jvm.Cond) (aos : List String) (U : State) : Prop :=
  zx_CX ex A U U.heap sts Y ∧ (∀ w ∈ nw, va_Nw w U) ∧ (∀ C ∈ aos, va_AO C U)
def zx_Pc (D : va_G) (cl : List vw_C) (A : Nat → Prop) (ex : List Nat) (sts : List (String × String × String × Nat)) (Y : zx_Y) (nw : List Jvm.Cond) (aos : List String) (tys : List (ClassId × FieldType)) (ws : va_W) (sz : Nat) (av : List Value) : Array Value → State → Prop :=
  va_Pc av (fun U => U.heap.size = sz ∧ va_P D cl ws U.heap ∧ va_K D cl tys U ∧ va_D A ws ∧ zx_EV ex A sts Y nw aos U)
def zx_Qc (D : va_G) (cl : List vw_C) (A : Nat → Prop) (b : Nat) (ex : List Nat) (ρ : List Int) (ws : va_W) (KK : List Nat) (os : List zx_Ou) : Array Value → State → Outcome → State → Prop := fun _ st oc t =>
  (∃ o ∈ os, ∃ (v : Option Value) (r2 : List Int) (tys' : List (ClassId × FieldType)) (ws' : va_W), oc = .returned v ∧ zx_ok (ρ ++ r2) o.1 ∧ va_K D cl tys' t ∧ va_P D cl ws' t.heap ∧ va_D A ws' ∧ zx_KP (ws, KK) ws' ∧ zx_F2 (fun c q => zx_RC cl b ex (ρ ++ r2) (zx_as ws') tys' c q.2) o.2.1 ws' ∧ zx_rv b ex (ρ ++ r2) (zx_as ws') o.2.2 v) ∧ va_F A st t
/-- the runs of f are the machine's -/
def zx_FJ (l : Launch) (cl : List vw_C) (Ts nw : List Jvm.Cond) (sts : List (String × String × String × Nat)) (Y : zx_Y) (aos : List String) (PR : zx_PR) (rmt : List (Nat × Nat)) (d : Nat) (f : zx_Fn) (j : Nat) : Prop :=
  ∀ (y : MethodName) (cc : ByteArray) (maxL : Nat) (ret : Option FieldType) (rm : Nat × Nat), PR[j]? = some (y, cc, maxL, ret) → rmt[j]? = some rm →
  ∀ (G : zx_G) (h : List zx_C) (as : List zx_V) (os : List zx_Ou), f j G h as = some os →
  ∀ (D : va_G) (A : Nat → Prop) (b : Nat) (ex : List Nat) (ρ : List Int) (tys : List (ClassId × FieldType)) (ws : va_W) (sz : Nat) (av : List Value), zx_ok ρ G → zx_F2 (fun c q => zx_RC cl b ex ρ (zx_as ws) tys c q.2) h ws → zx_F2 (zx_R b ex ρ (zx_as ws)) as av → (∀ q, sz ≤ q → A q) → Y.2.2 ws →
  Met l y (Jvm.Cond.code y cc maxL ret :: Ts) ({ frames := d, cells := rm.1, slots := rm.2, locals := 100 * d }) (zx_Pc D cl A ex sts Y nw aos tys ws sz av) (zx_Qc D cl A b ex ρ ws Y.2.1 os) rm.1 rm.2 A
def zx_FOK (l : Launch) (cl : List vw_C) (Ts nw : List Jvm.Cond) (sts : List (String × String × String × Nat)) (Y : zx_Y) (aos : List String) (PR : zx_PR) (rmt : List (Nat × Nat)) (d : Nat) (f : zx_Fn) : Prop := ∀ j : Nat, zx_FJ l cl Ts nw sts Y aos PR rmt d f j
/-- the frame keeps what it is to keep -/
def zx_YO (Y : zx_Y) (a : zx_A0) : Prop := a.2 = Y.2.1 ∧ ∀ ws, zx_KP a ws → Y.2.2 ws
/-- what is known rests on the kept cells -/
def zx_YI (Y : zx_Y) : Prop := ∀ ws ws', zx_KP (ws, Y.2.1) ws' → Y.2.2 ws → Y.2.2 ws'
theorem zx_YO_of {Y : zx_Y} (h : zx_YI Y) {ws : va_W} (hw : Y.2.2 ws) : zx_YO Y (ws, Y.2.1) := ⟨rfl, fun ws' hk => h ws ws' hk hw⟩
/-- the words of the machine's own -/
def zv_NW (own : String) (Ts : List Jvm.Cond) (ix kd : Nat) : Prop := match kd with
  | 6 => Jvm.Cond.methodLink own ix Lib.Math.max.name ∈ Ts ∧ Jvm.Cond.static Lib.Math.max.name ∈ Ts ∧ Jvm.Cond.initialized "java/lang/Math" ∈ Ts ∧ Jvm.Cond.code Lib.Math.max.name Lib.Math.max.code 2 (some .int) ∈ Ts
  | 7 => Jvm.Cond.methodLink own ix Lib.Math.min.name ∈ Ts ∧ Jvm.Cond.static Lib.Math.min.name ∈ Ts ∧ Jvm.Cond.initialized "java/lang/Math" ∈ Ts ∧ Jvm.Cond.code Lib.Math.min.name Lib.Math.min.code 2 (some .int) ∈ Ts
  | 8 => Jvm.Cond.methodLink own ix Lib.Math.abs.name ∈ Ts ∧ Jvm.Cond.static Lib.Math.abs.name ∈ Ts ∧ Jvm.Cond.initialized "java/lang/Math" ∈ Ts ∧ Jvm.Cond.code Lib.Math.abs.name Lib.Math.abs.code 1 (some .int) ∈ Ts
  | 9 => Jvm.Cond.methodLink own ix arraycopyName ∈ Ts ∧ Jvm.Cond.native arraycopyName ∈ Ts ∧ Jvm.Cond.static arraycopyName ∈ Ts ∧ Jvm.Cond.initialized "java/lang/System" ∈ Ts
  | _ => True
def zx_LK (own : String) (cl : List vw_C) (Ts nw : List Jvm.Cond) (PR : zx_PR) (cf : Nat → Option (Nat × Nat × Nat × Nat)) : Prop :=
  cl.length < 900 ∧ ∀ ix q, cf ix = some q → (q.1 = 5 → Jvm.Cond.methodLink own ix objectInit ∈ Ts ∧ Jvm.Cond.instanceMethod objectInit ∈ Ts ∧ Jvm.Cond.code objectInit ⟨#[0xb1]⟩ 1 none ∈ Ts) ∧
    (q.1 < 5 → ∃ (y : MethodName) (cc : ByteArray) (maxL : Nat) (ret : Option FieldType), PR[q.2.1]? = some (y, cc, maxL, ret) ∧ maxL ≤ 80 ∧ Jvm.Cond.code y cc maxL ret ∈ Ts ∧ Jvm.Cond.initialized y.cls ∈ Ts ∧ y.cls ≠ "java/lang/invoke/MethodHandle" ∧ y.cls ≠ "java/lang/invoke/VarHandle" ∧
      (q.1 = 0 → Jvm.Cond.methodLink own ix y ∈ Ts ∧ Jvm.Cond.instanceMethod y ∈ Ts ∧ Jvm.Cond.selects y.cls y y ∈ Ts ∧ (parseMethodDescriptor y.desc).map (fun d => d.parameters.length) = some (q.2.2.1 - 1) ∧ ((q.2.2.2 = 999 ∧ y.cls = zx_fc) ∨ ∃ (T : u_T) (N : Nat), cl[q.2.2.2]? = some (y.cls, T, N))) ∧
      (q.1 = 1 → Jvm.Cond.methodLink own ix y ∈ Ts ∧ Jvm.Cond.static y ∈ Ts ∧ (parseMethodDescriptor y.desc).map (fun d => d.parameters.length) = some q.2.2.1) ∧
      (q.1 = 2 → Jvm.Cond.methodLink own ix y ∈ Ts ∧ Jvm.Cond.instanceMethod y ∈ Ts ∧ y.name = "<init>" ∧ ret = none ∧ (parseMethodDescriptor y.desc).map (fun d => d.parameters.length) = some (q.2.2.1 - 1)) ∧
      (q.1 = 3 → ∃ host, Jvm.Cond.methodLinkNest own ix y host ∈ nw ∧ Jvm.Cond.static y ∈ Ts ∧ (parseMethodDescriptor y.desc).map (fun d => d.parameters.length) = some q.2.2.1) ∧
      (q.1 = 4 → ∃ host, Jvm.Cond.methodLinkNest own ix y host ∈ nw ∧ Jvm.Cond.instanceMethod y ∈ Ts ∧ y.name = "<init>" ∧ ret = none ∧ (parseMethodDescriptor y.desc).map (fun d => d.parameters.length) = some (q.2.2.1 - 1))) ∧
    (6 ≤ q.1 → zv_NW own Ts ix q.1)

def zx_nk (w : Jvm.Cond) : Bool := match w with
  | .fieldLinkNest _ _ _ _ _ _ => true
  | .methodLinkNest _ _ _ _ => true
  | _ => false
theorem zx_nw_warm {nw : List Jvm.Cond} {s U : State} (hk : nw.all zx_nk = true) (hW : s.WarmedH U.vm) (h : ∀ w ∈ nw, va_Nw w s) : ∀ w ∈ nw, va_Nw w U := by
  intro w hw
  have h1 := List.all_eq_true.mp hk w hw
  have h2 := h w hw
  cases w <;> first | exact va_Nw.warmF hW h2 | exact va_Nw.warmM hW h2 | cases h1
theorem zx_nw_same {nw : List Jvm.Cond} {s U : State} (hk : nw.all zx_nk = true) (hv : s.vm = U.vm) (h : ∀ w ∈ nw, va_Nw w s) : ∀ w ∈ nw, va_Nw w U := by
  intro w hw
  have h1 := List.all_eq_true.mp hk w hw
  have h2 := h w hw
  cases w <;> first | exact va_Nw.same rfl hv h2 | cases h1
theorem zx_CX_move {ex : List Nat} {A : Nat → Prop} {s U : State} {H : Heap} {sts : List (String × String × String × Nat)} {Y : zx_Y} (hvm : s.vm.Alike U.vm) (hk : ∀ a : Nat, a < s.heap.size → ¬ A a → H[a]? = s.heap[a]?) (h : zx_CX ex A s s.heap sts Y) : zx_CX ex A U H sts Y :=
  ⟨⟨fun q hq => by obtain ⟨a, h1, h2⟩ := h.1.1 q hq; exact ⟨a, h1, (h2.kept hk).moved hvm⟩, zx_XT_moved hvm (zx_XT_kept hk h.1.2)⟩, fun q hq => by
    obtain ⟨a, h0, h1, h2, h3⟩ := h.2 q hq
    refine ⟨a, h0, h1, h2, ?_⟩
    by_cases h8 : q.1 < 8
    · rw [if_pos h8] at h3 ⊢; exact (h3.kept hk).moved hvm
    · rw [if_neg h8] at h3 ⊢; exact ⟨(h3.1.kept hk).moved hvm, fun k o n d e1 v e2 => ((h3.2 k o n d e1 v e2).kept hk).moved hvm⟩⟩
theorem zx_blind {D : va_G} {cl : List vw_C} {A : Nat → Prop} {ex : List Nat} {sts : List (String × String × String × Nat)} {Y : zx_Y} {nw : List Jvm.Cond} {aos : List String} {tys : List (ClassId × FieldType)} {ws : va_W} {sz : Nat} {av : List Value} (hk : nw.all zx_nk = true) : FrameBlind (zx_Pc D cl A ex sts Y nw aos tys ws sz av) := by
  intro a U g mk h
  obtain ⟨h0, h1, h2, h3, h4, h5, h6, h7⟩ := h
  have hvm : U.vm.Alike (U.calling g mk a).vm := Vm.Alike.refl U.vm
  exact ⟨h0, h1, h2, va_K.moved hvm h3, h4, zx_CX_move (s := U) (U := U.calling g mk a) hvm (fun _ _ _ => rfl) h5, zx_nw_same hk (rfl : U.vm = (U.calling g mk a).vm) h6, fun C hC => va_AO.moved hvm (h7 C hC)⟩
theorem zx_cats_ok {b : Nat} {ex : List Nat} {ρ : List Int} {ad : List Nat} : ∀ {sk : List zx_V} {kc : List Value}, zx_F2 (zx_R b ex ρ ad) sk kc → (kc.map fun v => v.category).sum = zx_cats sk
  | [], [], _ => rfl
  | v :: r, x :: m, h => by
    show x.category + (m.map fun v => v.category).sum = zx_cat v + zx_cats r
    rw [zx_cats_ok h.2, zx_R_cat h.1]
  | [], _ :: _, h => h.elim
  | _ :: _, [], h => h.elim
theorem zx_objs_ok {h : List zx_C} {ci : Nat} : ∀ {ids : List Nat} {i : Nat}, zx_objs h ci ids = true → i ∈ ids → ¬ i < 64 ∧ ∃ ss, h[i - 64]? = some (.inl (ci, ss))
  | [], _, _, hi => nomatch hi
  | id :: r, i, ho, hi => by
    rw [zx_objs] at ho
    simp only [zy_get_eq] at ho
    split at ho
    · cases ho
    · rename_i h1
      split at ho
      · rename_i o h2
        split at ho
        · rename_i h3
          rcases List.mem_cons.mp hi with e | e
          · subst e
            exact ⟨h1, o.2, by rw [h2, ← h3]⟩
          · exact zx_objs_ok ho e
        · cases ho
      · cases ho
theorem zx_back_mem {rest : List zx_V} {k : Nat × Nat} {o : zx_Ou} : ∀ {os : List zx_Ou}, o ∈ os → (o.1, o.2.1, o.2.2.toList ++ rest, k) ∈ zx_back rest k os
  | [], h => nomatch h
  | o1 :: r, h => by
    rw [zx_back]
    rcases List.mem_cons.mp h with e | e
    · subst e; exact List.mem_cons_self
    · exact List.mem_cons_of_mem _ (zx_back_mem e)
theorem zx_recvr0 {ci : Nat} {h : List zx_C} {as : List zx_V} (hh : zx_recvr 0 ci h as = true) : ∃ ids r, as = .inr (.inl (ids, false)) :: r ∧ zx_objs h ci ids = true := by
  have h1 : zx_rc0 h ci as = true := hh
  unfold zx_rc0 at h1
  split at h1
  · exact ⟨_, _, rfl, h1⟩
  · cases h1
theorem zx_rc1_ok {as : List zx_V} (h1 : zx_rc1 as = true) : ∃ ids r, as = .inr (.inl (ids, false)) :: r := by
  unfold zx_rc1 at h1
  split at h1
  · exact ⟨_, _, rfl⟩
  · cases h1
theorem zx_recvr2 {ci : Nat} {h : List zx_C} {as : List zx_V} (hh : zx_recvr 2 ci h as = true) : ∃ ids r, as = .inr (.inl (ids, false)) :: r := zx_rc1_ok hh
theorem zx_recvr4 {ci : Nat} {h : List zx_C} {as : List zx_V} (hh : zx_recvr 4 ci h as = true) : ∃ ids r, as = .inr (.inl (ids, false)) :: r := zx_rc1_ok hh
section ZXC
variable {p : Program} {l : Launch} {e : Env} {R : Room} {s : State} {m : MethodId} {args : Array Value} {below : List Frame} {meth : Method} {c : Code} {Q : State → Prop}
variable {D : va_G} {cl : List vw_C} {A : Nat → Prop} {b : Nat} {ex : List Nat} {ad0 : zx_A0} {nL : Nat} {ρ : List Int} {G : zx_G} {h : List zx_C} {lv : List (Nat × zx_V)} {k : Nat × Nat} {sk : List zx_V} {H : Heap} {locs : List Loc} {ls : Array Slot} {kc : List Value} {tys : List (ClassId × FieldType)} {ws : va_W} {lc : List (Nat × Value)}
variable {cc : ByteArray} {pc : Nat} {M : zx_M} {own : String} {Ts nw : List Jvm.Cond} {sts : List (String × String × String × Nat)} {Y : zx_Y} {aos : List String} {dt : List (List Nat)} {PR : zx_PR} {rmt : List (Nat × Nat)} {f : zx_Fn} {d : Nat} {cf : Nat → Option (Nat × Nat × Nat × Nat)}
/-- behind a call that came back -/
theorem zx_run_W {KK : List Nat} (hKK : ad0.2 = KK) {rm : Nat × Nat} {os : List zx_Ou} {a : Array Value} {st0 rest : List Value} {rk : List zx_V} (hA : ∀ q, s.heap.size ≤ q → A q) (B : zx_B D cl A b ex ad0 nL s ρ h lv rk H locs ls rest tys ws lc) (hr : va_Run p l e R s m args below meth c H locs k.1 k.2 rm.1 rm.2 (F0 m pc ls st0) rest (zx_Qc D cl A b ex ρ ws KK os a) A)
    (K : ∀ q ∈ zx_back rk (k.1 + rm.1, k.2 + rm.2) os, ∀ (r2 : List Int) (H' : Heap) (locs' : List Loc) (kc' : List Value), zx_J D cl A b ex ad0 nL s (ρ ++ r2) q.1 q.2.1 lv q.2.2.1 H' locs' ls kc' → W p l e R s m args below meth c H' locs' q.2.2.2.1 q.2.2.2.2 Q (F0 m (pc + 3) ls kc')) : W p l e R s m args below meth c H locs k.1 k.2 Q (F0 m pc ls st0) := by
  intro T hT X
  obtain ⟨v, st₀, t, T', L, h0, X', hL, e1, e2, ⟨⟨o, ho, v', r2, tys', ws', hv, q1, q2, q3, q4, ⟨⟨xt, q5⟩, q50⟩, q6, q7⟩, hz, hk⟩, st⟩ := hr T hT X
  cases hv
  rw [h0] at hz hk
  obtain ⟨b1, b2, b3, ⟨b4, ⟨⟨xt0, b40⟩, b41⟩⟩, b5, b6, b7, b8⟩ := B
  have hS : va_S A s.heap T'.heap (locs ++ L) := ⟨Nat.le_trans b4.1 (by rw [e1]; exact hz), fun q h1 h2 => by rw [e1, hk q (Nat.lt_of_lt_of_le h1 b4.1) h2]; exact b4.2.1 q h1 h2, fun q hq => by
      rcases List.mem_append.mp hq with h | h
      · exact b4.2.2 q h
      · exact hL q h⟩
  have hvm : t.vm.Alike s.vm := by rw [← e2]; exact X'.warmed.alike.symm
  have hup : ∀ (x : zx_V) (y : Value), zx_R b ex ρ (zx_as ws) x y → zx_R b ex (ρ ++ r2) (zx_as ws') x y := fun x y hxy => by rw [q5]; exact zx_R_app hxy
  have J : zx_J D cl A b ex ad0 nL s (ρ ++ r2) o.1 o.2.1 lv (o.2.2.toList ++ rk) T'.heap (locs ++ L) ls (v.toList ++ rest) := by
    refine ⟨q1, tys', ws', lc, va_K.moved hvm q2, by rw [e1]; exact q3, q4, ⟨hS, ⟨xt0 ++ xt, by rw [q5, b40, List.append_assoc]⟩, fun i hi q hq => q50 i (by rw [← hKK]; exact hi) q (b41 i hi q hq)⟩, q6, zx_F2_imp (fun _ _ q => ⟨q.1, hup _ _ q.2⟩) b6, b7, ?_⟩
    refine zx_F2_app (zx_F2_imp hup b8) ?_
    revert q7
    rcases o.2.2 with _ | av <;> rcases v with _ | xv
    · exact fun _ => trivial
    · exact fun q7 => q7.elim
    · exact fun q7 => q7.elim
    · exact fun q7 => ⟨q7, trivial⟩
  obtain ⟨t2, a1, c1⟩ := K _ (zx_back_mem ho) r2 T'.heap (locs ++ L) (v.toList ++ rest) J T' rfl X'
  exact ⟨t2, st t2 a1, c1⟩
theorem zx_call_ok (hYO : zx_YO Y ad0) {i : Instr} {ix : Nat × Nat} {z : List (zx_G × (List zx_C × (List zx_V × (Nat × Nat))))} (F : zx_FX p s m args meth c R cc own Ts nw cl A ex nL sts Y aos dt M) (hf : zx_FOK l cl Ts nw sts Y aos PR rmt d f) (hLK : zx_LK own cl Ts nw PR cf) (hgw : Ts.all goodWord = true) (hnk : nw.all zx_nk = true) (hroom : d + 1 ≤ R.frames ∧ 100 * (d + 1) ≤ R.locals) (hml : c.maxLocals = nL) (hinv : zx_inv i = some ix) (hd : decode cc pc = .ok (i, 3)) (hG : zx_ok ρ G) (B : zx_B D cl A b ex ad0 nL s ρ h lv sk H locs ls kc tys ws lc) (hz : zx_call Y M cf rmt f ix G h k sk = some z)
    (K : ∀ q ∈ z, ∀ (r2 : List Int) (H' : Heap) (locs' : List Loc) (kc' : List Value), zx_J D cl A b ex ad0 nL s (ρ ++ r2) q.1 q.2.1 lv q.2.2.1 H' locs' ls kc' → W p l e R s m args below meth c H' locs' q.2.2.2.1 q.2.2.2.2 Q (F0 m (pc + 3) ls kc')) : W p l e R s m args below meth c H locs k.1 k.2 Q (F0 m pc ls kc) := by
  obtain ⟨hx, hb, hown, hts, hnw, hA, hR, hin, hnL, hCX, hao, hCK, hMK⟩ := F
  have hsz : ls.size = nL := B.2.2.2.2.2.2.1.1
  unfold zx_call at hz
  simp only [zy_get_eq, zy_set_eq] at hz
  split at hz
  · rename_i q hq
    obtain ⟨L5, L0, -⟩ := hLK.2 ix.1 q hq
    have hcl := hLK.1
    split at hz
    · rename_i h5
      obtain ⟨m1, m2, m3⟩ := L5 h5.1
      have hi : i = .invokespecial ix.1 := by
        cases i <;> first | (cases hinv; rfl) | (cases hinv; exact nomatch h5.2) | cases hinv
      subst hi
      split at hz
      · rename_i ids r
        obtain ⟨x, kr, rfl, hv, B1⟩ := zx_top1 B
        split at hz
        · rename_i hc
          rcases hv with ⟨h4, -⟩ | ⟨i0, a, h4, h5, rfl⟩
          · cases h4
          · have hcat := zx_cats_ok B1.2.2.2.2.2.2.2
            refine W.objInit hx hb hown (hts _ m1) (hts _ m2) (hts _ m3) rfl (by rw [hml]; exact hsz) rfl hd (by omega) ?_ ?_
            · show 2 * 0 + (kr.map fun v => v.category).sum + 12 ≤ R.locals
              rw [hcat]; omega
            · have hz2 := zx_one hz
              exact K _ hz2 [] H locs kr (zx_J_same hG B1)
        · cases hz
      · cases hz
    · rename_i h5
      split at hz
      · rename_i rm hrm
        split at hz
        · rename_i hc
          obtain ⟨c0, c1, c2, c3, c4⟩ := hc
          split at hz
          · rename_i os hos
            cases hz
            have hne5 : q.1 < 5 := by
              rcases q with ⟨q1, q2⟩
              match q1, c0 with
              | 0, _ => show 0 < 5; decide
              | 1, _ => show 1 < 5; decide
              | 2, _ => show 2 < 5; decide
              | 3, _ => show 3 < 5; decide
              | 4, _ => show 4 < 5; decide
              | n + 5, c0 => cases c0
            obtain ⟨y, yc, maxL, ret, n1, n2, n3, n4, n5, n6, L0⟩ := L0 hne5
            have h8 := B.2.2.2.2.2.2.2
            have hlen := zx_F2_len h8
            obtain ⟨htk, hdr⟩ := zx_F2_take q.2.2.1 h8
            have hav := zx_F2_rev htk
            have hcat := zx_cats_ok hdr
            have hW8 : ((kc.drop q.2.2.1).map fun v => v.category).sum ≤ 8 := by rw [hcat]; exact c2
            have hk2 : k.1 + rm.1 ≤ R.cells ∧ k.2 + rm.2 ≤ R.slots := by
              unfold zx_le2 at c3
              rw [Bool.and_eq_true] at c3
              rw [hR.1, hR.2]
              exact ⟨Nat.le_of_ble_eq_true c3.1, Nat.le_of_ble_eq_true c3.2⟩
            have hM := hf q.2.1 y yc maxL ret rm n1 hrm G h _ os hos D A b ex ρ tys ws H.size (kc.take q.2.2.1).reverse hG B.2.2.2.2.1 hav (fun x hx => hA x (Nat.le_trans B.2.2.2.1.1.1 hx)) (hYO.2 ws B.2.2.2.1.2)
            have hrooms : ({ frames := d, cells := rm.1, slots := rm.2, locals := 100 * d } : Room).frames + 1 ≤ R.frames ∧ 8 + (maxL + 11) + ({ frames := d, cells := rm.1, slots := rm.2, locals := 100 * d } : Room).locals ≤ R.locals := ⟨hroom.1, by show 8 + (maxL + 11) + 100 * d ≤ R.locals; omega⟩
            have hgT : GoodIn Ts (Jvm.Cond.code y yc maxL ret :: Ts) := by
              intro w hw
              have hw2 : w ∈ Ts := (List.mem_cons.mp hw).elim (fun g => by rw [g]; exact n3) id
              exact ⟨hw2, good_of_word (List.all_eq_true.mp hgw w hw2)⟩
            have hgo : ∀ w ∈ Ts, w ∈ Ts ∧ ((w.onTables && w.keeps) = true ∨ ∃ ty, w = .arrayClass ty) := fun w hw => ⟨hw, good_of_word (List.all_eq_true.mp hgw w hw)⟩
            have hcall : CallFix p m c cc nL s args Ts own := ⟨hx, hb, hml, hown, hts⟩
            have hstk : kc = kc.take q.2.2.1 ++ kc.drop q.2.2.1 := (List.take_append_drop _ _).symm
            have hpre : ∀ U : State, U.heap = H → s.WarmedH U.vm → zx_Pc D cl A ex sts Y nw aos tys ws H.size (kc.take q.2.2.1).reverse (kc.take q.2.2.1).reverse.toArray U := fun U hU hW =>
              ⟨rfl, by rw [hU], by rw [hU]; exact B.2.1, va_K.moved hW.alike B.1, B.2.2.1, by rw [hU]; exact zx_CX_move hW.alike (fun a h1 h2 => B.2.2.2.1.1.2.1 a h1 h2) hCX, zx_nw_warm hnk hW hnw, fun C hC => va_AO.moved hW.alike (hao C hC)⟩
            have hbl : FrameBlind (zx_Pc D cl A ex sts Y nw aos tys ws H.size (kc.take q.2.2.1).reverse) := zx_blind hnk
            have hsub : zx_B D cl A b ex ad0 nL s ρ h lv (sk.drop q.2.2.1) H locs ls (kc.drop q.2.2.1) tys ws lc := zx_B_sk B hdr
            have hkl : (kc.take q.2.2.1).length = q.2.2.1 := by rw [← zx_F2_len htk]; exact c1
            -- the receiver, where there is one
            have hrec : ∀ (v : zx_V) (as : List zx_V), (sk.take q.2.2.1).reverse = v :: as → ∃ (x : Value) (As : List Value), (kc.take q.2.2.1).reverse = x :: As ∧ zx_R b ex ρ (zx_as ws) v x ∧ kc = As.reverse ++ x :: kc.drop q.2.2.1 ∧ As.length = q.2.2.1 - 1 := by
              intro v as hs
              rw [hs] at hav
              cases hr : (kc.take q.2.2.1).reverse with
              | nil => rw [hr] at hav; exact hav.elim
              | cons x As =>
                rw [hr] at hav
                have h9 : kc.take q.2.2.1 = As.reverse ++ [x] := by
                  have := congrArg List.reverse hr
                  rw [List.reverse_reverse, List.reverse_cons] at this
                  exact this
                refine ⟨x, As, rfl, hav.1, ?_, ?_⟩
                · have h10 := hstk
                  rw [h9, List.append_assoc] at h10
                  exact h10
                · have h11 := congrArg List.length h9
                  rw [hkl, List.length_append, List.length_reverse, List.length_singleton] at h11
                  omega
            rcases (show q.1 = 0 ∨ q.1 = 1 ∨ q.1 = 2 ∨ q.1 = 3 ∨ q.1 = 4 by
              unfold zx_kok at c0
              split at c0
              · exact Or.inl (by assumption)
              · exact Or.inr (Or.inl (by assumption))
              · exact Or.inr (Or.inr (Or.inr (Or.inl (by assumption))))
              · exact Or.inr (Or.inr (Or.inl (by assumption)))
              · exact Or.inr (Or.inr (Or.inr (Or.inr (by assumption))))
              · cases c0) with g | g | g | g | g
            · obtain ⟨j1, j2, j3, j4, j50⟩ := L0.1 g
              rw [g] at c0 c4
              have hi : i = .invokevirtual ix.1 := by
                cases i <;> first | (cases hinv; rfl) | (cases hinv; cases c0) | cases hinv
              subst hi
              have hcc : ∃ ids as, (sk.take q.2.2.1).reverse = .inr (.inl (ids, false)) :: as ∧ (zx_objs h q.2.2.2 ids = true ∨ (q.2.2.2 = 999 ∧ ∀ id ∈ ids, 8 ≤ id ∧ ∃ row, (id, row) ∈ Y.1)) := by
                rw [Bool.or_eq_true] at c4
                rcases c4 with c4 | c4
                · obtain ⟨ids, as, hs, c4⟩ := zx_recvr0 c4
                  exact ⟨ids, as, hs, Or.inl c4⟩
                · have c4 : zx_rcX Y q.2.2.2 (sk.take q.2.2.1).reverse = true := by simpa using c4
                  unfold zx_rcX at c4
                  split at c4
                  · rename_i ids as hs
                    rw [Bool.and_eq_true] at c4
                    refine ⟨ids, as, hs, Or.inr ⟨Nat.eq_of_beq_eq_true c4.1, fun id hid => ?_⟩⟩
                    have h9 := List.all_eq_true.mp c4.2 id hid
                    rw [Bool.and_eq_true] at h9
                    refine ⟨Nat.le_of_ble_eq_true h9.1, ?_⟩
                    have h10 := h9.2
                    split at h10
                    · rename_i row hrow
                      exact ⟨row, zx_fd_mem hrow⟩
                    · cases h10
                  · cases c4
              obtain ⟨ids, as, hs, c4⟩ := hcc
              obtain ⟨x, As, r1, r2, r3, r4⟩ := hrec _ _ hs
              rcases r2 with ⟨h4, -⟩ | ⟨i0, a, h4, h5, rfl⟩
              · cases h4
              · have hrcv : ∃ cell : Cell, H[a]? = some cell ∧ cell.vm.isStatics = false ∧ s.vm.findClass y.cls = some cell.cls := by
                  rcases c4 with c4 | ⟨c5, c4⟩
                  · obtain ⟨o1, ss, o2⟩ := zx_objs_ok c4 h4
                    obtain ⟨en, g1, fs, rfl, g2⟩ := zx_cell B o1 h5 o2
                    rcases j50 with ⟨j51, -⟩ | ⟨T, N, j5⟩
                    · obtain ⟨rr, hc1, -⟩ := B.2.1 _ _ g1
                      rw [j51] at hc1
                      exact absurd (List.getElem?_eq_some_iff.mp hc1).1 (by have := hcl; omega)
                    · exact va_recv B.1 B.2.1 j5 g1
                  · obtain ⟨c6, row, c7⟩ := c4 i0 h4
                    obtain ⟨a', a0, a1, a2, a3⟩ := hCX.2 _ c7
                    rw [if_neg (by show ¬ i0 < 8; omega)] at a3
                    rw [zx_ad, if_pos a0, a1] at h5
                    have h5 : a' = a := Option.some.inj h5
                    subst h5
                    rcases j50 with ⟨-, j52⟩ | ⟨T, N, j5⟩
                    · obtain ⟨cell, k1, k2, k3, k4⟩ := a3.1.kept B.2.2.2.1.1.2.1
                      exact ⟨cell, k1, k2, by rw [j52]; exact k3⟩
                    · exact absurd (List.getElem?_eq_some_iff.mp j5).1 (by rw [c5]; have := hcl; omega)
                rw [r1] at hM hpre hbl
                have hkk : W p l e R s m args below meth c H locs k.1 k.2 Q (F0 m pc ls (As.reverse ++ .ref a :: kc.drop q.2.2.1)) :=
                  zx_run_W hYO.1 hA hsub (va_runV (As := As) (rest := kc.drop q.2.2.1) hcall hM (cwV (q.2.2.1 - 1) hts (fun w hw => by
                    rcases List.mem_append.mp hw with hw | hw
                    · simp only [List.mem_cons, List.not_mem_nil, or_false] at hw
                      rcases hw with rfl | rfl | rfl | rfl
                      · exact hgo _ j1
                      · exact hgo _ j2
                      · exact hgo _ j3
                      · exact hgo _ n4
                    · exact hgT w hw) rfl rfl rfl ⟨rfl, n5, n6, j4⟩ hrooms) ⟨hbl, hrcv, hpre⟩ rfl r4 hsz rfl (lv_room hW8) hd hk2) K
                rw [r3]
                exact hkk
            · obtain ⟨j1, j2, j3⟩ := L0.2.1 g
              rw [g] at c0
              have hi : i = .invokestatic ix.1 := by
                cases i <;> first | (cases hinv; rfl) | (cases hinv; cases c0) | cases hinv
              subst hi
              have hkk : W p l e R s m args below meth c H locs k.1 k.2 Q (F0 m pc ls ((kc.take q.2.2.1).reverse.reverse ++ kc.drop q.2.2.1)) :=
                zx_run_W hYO.1 hA hsub (va_runS (As := (kc.take q.2.2.1).reverse) (rest := kc.drop q.2.2.1) hcall hM (va_cwS q.2.2.1 hts (fun w hw => by
                  rcases List.mem_append.mp hw with hw | hw
                  · simp only [List.mem_cons, List.not_mem_nil, or_false] at hw
                    rcases hw with rfl | rfl | rfl
                    · exact hgo _ j1
                    · exact hgo _ j2
                    · exact hgo _ n4
                  · exact hgT w hw) rfl rfl rfl ⟨n5, n6, j3⟩ hrooms) ⟨hbl, hpre⟩ rfl (by rw [List.length_reverse]; exact hkl) hsz rfl (lv_room hW8) hd hk2) K
              rw [List.reverse_reverse, ← hstk] at hkk
              exact hkk
            · obtain ⟨j1, j2, j3, j4, j5⟩ := L0.2.2.1 g
              subst j4
              rw [g] at c0 c4
              have hi : i = .invokespecial ix.1 := by
                cases i <;> first | (cases hinv; rfl) | (cases hinv; cases c0) | cases hinv
              subst hi
              have c4 : zx_recvr 2 q.2.2.2 h (sk.take q.2.2.1).reverse = true := by simpa using c4
              obtain ⟨ids, as, hs⟩ := zx_recvr2 c4
              obtain ⟨x, As, r1, r2, r3, r4⟩ := hrec _ _ hs
              rcases r2 with ⟨h4, -⟩ | ⟨i0, a, h4, h5, rfl⟩
              · cases h4
              · rw [r1] at hM hpre hbl
                have hkk : W p l e R s m args below meth c H locs k.1 k.2 Q (F0 m pc ls (As.reverse ++ .ref a :: kc.drop q.2.2.1)) :=
                  zx_run_W hYO.1 hA hsub (va_runI (As := As) (rest := kc.drop q.2.2.1) hcall hM (cwI (q.2.2.1 - 1) hts hgT rfl rfl rfl (hts _ n4) (hts _ j1) (hts _ j2) j3 ⟨n5, n6, j5⟩ hrooms) ⟨hbl, hpre⟩ rfl r4 hsz rfl (lv_room hW8) hd hk2) K
                rw [r3]
                exact hkk
            · obtain ⟨host, j1, j2, j3⟩ := L0.2.2.2.1 g
              rw [g] at c0
              have hi : i = .invokestatic ix.1 := by
                cases i <;> first | (cases hinv; rfl) | (cases hinv; cases c0) | cases hinv
              subst hi
              have hkk : W p l e R s m args below meth c H locs k.1 k.2 Q (F0 m pc ls ((kc.take q.2.2.1).reverse.reverse ++ kc.drop q.2.2.1)) :=
                zx_run_W hYO.1 hA hsub (va_runSN (As := (kc.take q.2.2.1).reverse) (rest := kc.drop q.2.2.1) hcall hM ⟨va_cnB (host := host) q.2.2.1 hts hgT rfl rfl rfl (hnw _ j1) (hts _ n4) ⟨n5, n6, j3⟩ hrooms, hts _ j2, trivial⟩ ⟨hbl, hpre⟩ rfl (by rw [List.length_reverse]; exact hkl) hsz rfl (lv_room hW8) hd hk2) K
              rw [List.reverse_reverse, ← hstk] at hkk
              exact hkk
            · obtain ⟨host, j1, j2, j3, j4, j5⟩ := L0.2.2.2.2 g
              subst j4
              rw [g] at c0 c4
              have hi : i = .invokespecial ix.1 := by
                cases i <;> first | (cases hinv; rfl) | (cases hinv; cases c0) | cases hinv
              subst hi
              have c4 : zx_recvr 4 q.2.2.2 h (sk.take q.2.2.1).reverse = true := by simpa using c4
              obtain ⟨ids, as, hs⟩ := zx_recvr4 c4
              obtain ⟨x, As, r1, r2, r3, r4⟩ := hrec _ _ hs
              rcases r2 with ⟨h4, -⟩ | ⟨i0, a, h4, h5, rfl⟩
              · cases h4
              · rw [r1] at hM hpre hbl
                have hkk : W p l e R s m args below meth c H locs k.1 k.2 Q (F0 m pc ls (As.reverse ++ .ref a :: kc.drop q.2.2.1)) :=
                  zx_run_W hYO.1 hA hsub (va_runIN (As := As) (rest := kc.drop q.2.2.1) hcall hM ⟨va_cnB (host := host) (q.2.2.1 - 1) hts hgT rfl rfl rfl (hnw _ j1) (hts _ n4) ⟨n5, n6, j5⟩ hrooms, j3, hts _ j2⟩ ⟨hbl, hpre⟩ rfl r4 hsz rfl (lv_room hW8) hd hk2) K
                rw [r3]
                exact hkk
          · cases hz
        · cases hz
      · cases hz
  · cases hz
theorem zv_call_ok (hYO : zx_YO Y ad0) {i : Instr} {ix : Nat × Nat} {z : List (zx_G × (List zx_C × (List zx_V × (Nat × Nat))))} (F : zx_FX p s m args meth c R cc own Ts nw cl A ex nL sts Y aos dt M) (hf : zx_FOK l cl Ts nw sts Y aos PR rmt d f) (hLK : zx_LK own cl Ts nw PR cf) (hgw : Ts.all goodWord = true) (hnk : nw.all zx_nk = true) (hroom : d + 1 ≤ R.frames ∧ 100 * (d + 1) ≤ R.locals) (hml : c.maxLocals = nL) (hinv : zx_inv i = some ix) (hd : decode cc pc = .ok (i, 3)) (hG : zx_ok ρ G) (B : zx_B D cl A b ex ad0 nL s ρ h lv sk H locs ls kc tys ws lc) (hz : zv_call Y M cf rmt f ix G h k sk = some z)
    (K : ∀ q ∈ z, ∀ (r2 : List Int) (H' : Heap) (locs' : List Loc) (kc' : List Value), zx_J D cl A b ex ad0 nL s (ρ ++ r2) q.1 q.2.1 lv q.2.2.1 H' locs' ls kc' → W p l e R s m args below meth c H' locs' q.2.2.2.1 q.2.2.2.2 Q (F0 m (pc + 3) ls kc')) : W p l e R s m args below meth c H locs k.1 k.2 Q (F0 m pc ls kc) := by
  unfold zv_call at hz
  split at hz
  case h_2 => cases hz
  rename_i q hq
  split at hz
  case isFalse => exact zx_call_ok hYO F hf hLK hgw hnk hroom hml hinv hd hG B hz K
  rename_i h6
  have h6 := Nat.le_of_ble_eq_true h6
  split at hz
  case isFalse => cases hz
  rename_i h1
  have hi : i = .invokestatic ix.1 := by
    cases i <;> first | (cases hinv; rfl) | (cases hinv; exact nomatch h1) | cases hinv
  subst hi
  obtain ⟨-, -, LN⟩ := hLK.2 ix.1 q hq
  have LN := LN h6
  obtain ⟨hx, hb, hown, hts, hnw, hA, hR, hin, hnL, hCX, hao, hCK, hMK⟩ := id F
  have hsz : ls.size = nL := B.2.2.2.2.2.2.1.1
  unfold zv_nat at hz
  split at hz
  case isFalse => cases hz
  rename_i hk
  unfold zx_le2 at hk
  rw [Bool.and_eq_true] at hk
  have hk1 : k.1 ≤ R.cells := by rw [hR.1]; exact Nat.le_of_ble_eq_true hk.1
  have hk2 : k.2 ≤ R.slots := by rw [hR.2]; exact Nat.le_of_ble_eq_true hk.2
  have two : ∀ {z}, zv_n2 G h k sk = some z → (∀ q ∈ z, ∀ (r2 : List Int) (H' : Heap) (locs' : List Loc) (kc' : List Value), zx_J D cl A b ex ad0 nL s (ρ ++ r2) q.1 q.2.1 lv q.2.2.1 H' locs' ls kc' → W p l e R s m args below meth c H' locs' q.2.2.2.1 q.2.2.2.2 Q (F0 m (pc + 3) ls kc')) → ∃ (y x : Int32) (kr : List Value), kc = .int y :: .int x :: kr ∧ (kr.map fun v => v.category).sum ≤ 8 ∧ ∀ w : Int32, W p l e R s m args below meth c H locs k.1 k.2 Q (F0 m (pc + 3) ls (.int w :: kr)) := by
    intro z hz K
    unfold zv_n2 at hz
    split at hz
    · rename_i y x r
      obtain ⟨wy, kr0, rfl, -, B0⟩ := zx_topi B
      obtain ⟨wx, kr, rfl, -, B1⟩ := zx_topi B0
      split at hz
      · rename_i hc
        have hcat := zx_cats_ok B1.2.2.2.2.2.2.2
        refine ⟨wy, wx, kr, rfl, by omega, fun w => ?_⟩
        obtain ⟨r2, J⟩ := zx_J_res B1 (zx_full_ok (b := b) (ex := ex) (ad := zx_as ws) hG (w := w))
        exact K _ (zx_one hz) r2 H locs (.int w :: kr) J
      · cases hz
    · cases hz
  rcases q with ⟨q1, q2⟩
  replace LN : zv_NW own Ts ix.1 q1 := LN
  replace hz : zv_nk Y.2.1 q1 G h k sk = some z := hz
  clear hq
  revert LN
  unfold zv_nk at hz
  split at hz <;> intro LN
  · obtain ⟨y, x, kr, rfl, h8, kk⟩ := two hz K
    exact va_mmax hx hb (by rw [hml, hsz]) hown (hts _ LN.1) (hts _ LN.2.1) (hts _ LN.2.2.1) (hts _ LN.2.2.2) (by omega) (by omega) hk1 hk2 hd (kk _)
  · obtain ⟨y, x, kr, rfl, h8, kk⟩ := two hz K
    exact va_mmin hx hb (by rw [hml, hsz]) hown (hts _ LN.1) (hts _ LN.2.1) (hts _ LN.2.2.1) (hts _ LN.2.2.2) (by omega) (by omega) hk1 hk2 hd (kk _)
  · unfold zv_n1 at hz
    split at hz
    · rename_i x r
      obtain ⟨wx, kr, rfl, -, B1⟩ := zx_topi B
      split at hz
      · rename_i hc
        have hcat := zx_cats_ok B1.2.2.2.2.2.2.2
        refine va_mabs hx hb (by rw [hml, hsz]) hown (hts _ LN.1) (hts _ LN.2.1) (hts _ LN.2.2.1) (hts _ LN.2.2.2) (by omega) (by omega) hk1 hk2 hd ?_
        obtain ⟨r2, J⟩ := zx_J_res B1 (zx_full_ok (b := b) (ex := ex) (ad := zx_as ws) hG (w := if 0 ≤ wx then wx else 0 - wx))
        exact K _ (zx_one hz) r2 H locs _ J
      · cases hz
    · cases hz
  · split at hz
    case h_2 => cases hz
    rename_i hKK
    unfold zv_n9 at hz
    simp only [zy_get_eq] at hz
    split at hz
    case h_2 => cases hz
    rename_i n dp dst sp src r
    obtain ⟨wn, k0, rfl, hn, B0⟩ := zx_topi B
    obtain ⟨wd, k1, rfl, hdp, B1⟩ := zx_topi B0
    obtain ⟨xd, k2, rfl, hxd, B2⟩ := zx_top1 B1
    obtain ⟨wsp, k3, rfl, hsp, B3⟩ := zx_topi B2
    obtain ⟨xs, kr, rfl, hxs, B4⟩ := zx_top1 B3
    split at hz
    case isFalse => cases hz
    rename_i hc
    obtain ⟨hc8, hd64, hs64⟩ := hc
    split at hz
    case h_2 => cases hz
    rename_i d c' t hdst hsrc ht
    split at hz
    case isFalse => cases hz
    rename_i hcc
    obtain ⟨g1, g2, g3, g4, g5, g6, g7, g8, g9, g10, g11⟩ := hcc
    split at hz
    case h_2 => cases hz
    rename_i u w hu hw
    split at hz
    case isFalse => cases hz
    rename_i huw
    rcases hxd with ⟨hq0, -⟩ | ⟨id0, ad, hq0, had, rfl⟩
    · cases hq0
    rcases hxs with ⟨hq1, -⟩ | ⟨is0, as0, hq1, has, rfl⟩
    · cases hq1
    have hid : id0 = dst := List.mem_singleton.mp hq0
    have his : is0 = src := List.mem_singleton.mp hq1
    subst hid; subst his
    obtain ⟨ed, f1, cA, t0, f2, f3⟩ := zx_cell B4 hd64 had hdst
    obtain ⟨es, f4, cB, t1, f5, f6⟩ := zx_cell B4 hs64 has hsrc
    rcases f3 with ⟨-, fd, rfl, fr⟩ | ⟨f3, -⟩
    case inr => omega
    rcases f6 with ⟨-, fs, rfl, fr2⟩ | ⟨f6, -⟩
    case inr => omega
    rw [g3, hu] at fr
    rw [g4, hw] at fr2
    obtain ⟨tt, ts, htt, fr, -⟩ := fr
    cases htt
    obtain ⟨tt, ts, htt, fr2, -⟩ := fr2
    cases htt
    have hcat := zx_cats_ok B4.2.2.2.2.2.2.2
    have esp : wsp.toInt = 0 := by rw [zx_isc_ev g5 hsp]; exact g6
    have edp : wd.toInt = 0 := by rw [zx_isc_ev g7 hdp]; exact g8
    have en := zx_rng_ok hG ht hn
    have ty0 : zx_ty cl d.1 = .int := by rw [g1]; rfl
    have ty1 : zx_ty cl c'.1 = .int := by rw [g2]; rfl
    rw [ty0] at f2
    rw [ty1] at f5
    have zn : wn.toNatClampNeg = wn.toInt.toNat := rfl
    have zs : wsp.toNatClampNeg = 0 := by rw [zx_cl (t := 0) esp]; rfl
    have zd : wd.toNatClampNeg = 0 := by rw [zx_cl (t := 0) edp]; rfl
    refine va_copyi hx hb (by rw [hml, hsz]) hown (hts _ LN.1) (hts _ LN.2.1) (hts _ LN.2.2.1) (hts _ LN.2.2.2) B4.1 B4.2.1 B4.2.2.1 B4.2.2.2.1.1 (is0 - 64) (id0 - 64) t1 t0 f4 f1 f5 f2 rfl (by rw [Int32.lt_iff_toInt_lt]; show ¬ wsp.toInt < 0; omega) (by rw [Int32.lt_iff_toInt_lt]; show ¬ wd.toInt < 0; omega) (by rw [Int32.lt_iff_toInt_lt]; show ¬ wn.toInt < 0; omega) (by rw [zs, zn]; omega) (by rw [zd, zn]; omega) (fun i hi => rfl) (by omega) (by rw [hcat]; show zx_cats r + _ ≤ R.locals; have : nativeFrameWords "java/lang/System" "arraycopy" 5 + 11 ≤ 92 := (by decide +kernel); omega) hd (fun H1 locs1 P1 D1 S1 => ?_)
    refine K _ (zx_one hz) [] H1 locs1 kr ?_
    rw [List.append_nil]
    have hset : h.set (id0 - 64) (.inr (.inl d)) = h := zx_set_same hdst
    have B5 := zx_B_set (q := .inr (.inl d)) B4 (by rw [hYO.1, hKK]; exact fun h => nomatch h) f1 ⟨cA, t0, by rw [ty0]; exact f2, Or.inl ⟨by omega, _, rfl, by
      rw [g3, hu]
      refine ⟨.inr u, [], rfl, fun j hj => ?_, fun q hq => nomatch hq⟩
      refine ⟨va_cpy fs fd wsp.toNatClampNeg wd.toNatClampNeg wn.toNatClampNeg j, rfl, ?_⟩
      unfold va_cpy
      split
      · obtain ⟨w1, e1, e2, e3⟩ := fr2 (wsp.toNatClampNeg + (j - wd.toNatClampNeg)) (by rw [zs, zd]; rename_i hjj; rw [zd, zn] at hjj; omega)
        cases e1
        exact ⟨by omega, by omega⟩
      · obtain ⟨w1, e1, e2, e3⟩ := fr j hj
        cases e1
        exact ⟨e2, e3⟩⟩⟩ P1 D1 S1
    rw [hset] at B5
    exact ⟨hG, tys, _, lc, B5⟩
  · cases hz
end ZXC
end
