noncomputable section
/-! zk: methods told plainly -/
def zj_Q (D : va_G) (A : Nat → Prop) (tys : List (ClassId × FieldType)) (ws : va_W) (Z : Option Value → va_W → Prop) : Array Value → State → Outcome → State → Prop := fun _ st oc t =>
  (∃ (v : Option Value) (ws' : va_W), oc = .returned v ∧ va_K D vwCl tys t ∧ va_P D vwCl ws' t.heap ∧ va_D A ws' ∧ zx_as ws' = zx_as ws ∧ Z v ws') ∧ va_F A st t
def zj_W (l : Launch) (d j : Nat) (X : List Nat → List (ClassId × FieldType) → List Value → va_W → Prop) (Z : List Nat → List Value → va_W → Option Value → va_W → Prop) : Prop :=
  ∀ (y : MethodName) (cc : ByteArray) (maxL : Nat) (ret : Option FieldType) (rm : Nat × Nat), zx_PRt[j]? = some (y, cc, maxL, ret) → zx_rmt[j]? = some rm →
  ∀ (D : va_G) (A : Nat → Prop) (ex : List Nat) (tys : List (ClassId × FieldType)) (ws : va_W) (sz : Nat) (av : List Value), (∀ q, sz ≤ q → A q) → X ex tys av ws →
  Met l y (Jvm.Cond.code y cc maxL ret :: zx_Ts) ({ frames := d, cells := rm.1, slots := rm.2, locals := 100 * d }) (zx_Pc D vwCl A ex zx_sts zx_Yt zx_nw zx_aos tys ws sz av) (zj_Q D A tys ws (Z ex av ws)) rm.1 rm.2 A
/-- a frame, and what goes with it -/
def zj_cx (p : Program) (R : Room) (s : State) (mi : MethodId) (args : Array Value) (meth : Method) (c : Code) (A : Nat → Prop) (ex : List Nat) (nL : Nat) (own : String) (cc : ByteArray) (d : Nat) (md : zx_MD) (D : va_G) (tys : List (ClassId × FieldType)) : Prop :=
  zx_FX p s mi args meth c R cc own zx_Ts zx_nw vwCl A ex nL zx_sts zx_Yt zx_aos zx_dt md.2.1 ∧ zx_LK own vwCl zx_Ts zx_nw zx_PRt md.2.2.1 ∧ (d + 1 ≤ R.frames ∧ 100 * (d + 1) ≤ R.locals) ∧ c.maxLocals = nL ∧ zx_TB cc md.1 ∧ va_K D vwCl tys s
def zj_go (p : Program) (l : Launch) (e : Env) (R : Room) (s : State) (mi : MethodId) (args : Array Value) (below : List Frame) (meth : Method) (c : Code) (Q : State → Prop) (D : va_G) (A : Nat → Prop) (nL : Nat) (pc : Nat) (lv : List (Nat × Value)) (kc : List Value) (ws : va_W) : Prop :=
  ∀ (H : Heap) (locs : List Loc) (ls : Array Slot), va_P D vwCl ws H → va_D A ws → va_S A s.heap H locs → lv_has ls nL lv → W p l e R s mi args below meth c H locs 0 0 Q (F0 mi pc ls kc)
def zj_lk (lv : List (Nat × Value)) (i : Nat) : Option Value := match lv with
  | [] => none
  | q :: r => if q.1 = i then some q.2 else zj_lk r i
theorem zj_lk_mem {i : Nat} {v : Value} : ∀ {lv : List (Nat × Value)}, zj_lk lv i = some v → (i, v) ∈ lv
  | [], h => nomatch h
  | q :: r, h => by
    rw [zj_lk] at h
    split at h
    · rename_i hq
      cases h
      rw [← hq]
      exact List.mem_cons_self
    · exact List.mem_cons_of_mem _ (zj_lk_mem h)
theorem zj_lk_ok {ls : Array Slot} {nL i : Nat} {v : Value} {lv : List (Nat × Value)} (h : lv_has ls nL lv) (hl : zj_lk lv i = some v) : ls[i]? = some (.val v) := h.2.2 _ (zj_lk_mem hl)
def zj_set (lv : List (Nat × Value)) (i : Nat) (v : Value) : List (Nat × Value) := (i, v) :: lv.filter (fun q => !(q.1 == i) && !(q.1 + 1 == i && q.2.category == 2))
section ZKI
variable {p : Program} {l : Launch} {e : Env} {R : Room} {s : State} {mi : MethodId} {args : Array Value} {below : List Frame} {meth : Method} {c : Code} {Q : State → Prop} {D : va_G} {A : Nat → Prop} {ex : List Nat} {nL : Nat} {own : String} {cc : ByteArray} {d : Nat} {md : zx_MD} {tys : List (ClassId × FieldType)}
variable {pc n : Nat} {lv lv' : List (Nat × Value)} {kc : List Value} {ws : va_W}
theorem zj_aload_n (C : zj_cx p R s mi args meth c A ex nL own cc d md D tys) {k : Fin 4} {i : Nat} {x : Nat} (hd : (pc, Instr.aload_n k, 1) ∈ md.1) (hi : (k : Nat) = i) (hn : pc + 1 = n) (hl : zj_lk lv i = some (.ref x)) (h : zj_go p l e R s mi args below meth c Q D A nL n lv (.ref x :: kc) ws) : zj_go p l e R s mi args below meth c Q D A nL pc lv kc ws := by
  subst hn
  exact fun H locs ls hP hD hS hv => lv_aload_n C.1.1 C.1.2.1 (C.2.2.2.2.1 _ hd).1 hi (zj_lk_ok hv hl) (h H locs ls hP hD hS hv)
theorem zj_iload_n (C : zj_cx p R s mi args meth c A ex nL own cc d md D tys) {k : Fin 4} {i : Nat} {x : Int32} (hd : (pc, Instr.iload_n k, 1) ∈ md.1) (hi : (k : Nat) = i) (hn : pc + 1 = n) (hl : zj_lk lv i = some (.int x)) (h : zj_go p l e R s mi args below meth c Q D A nL n lv (.int x :: kc) ws) : zj_go p l e R s mi args below meth c Q D A nL pc lv kc ws := by
  subst hn
  exact fun H locs ls hP hD hS hv => lv_iload_n C.1.1 C.1.2.1 (C.2.2.2.2.1 _ hd).1 hi (zj_lk_ok hv hl) (h H locs ls hP hD hS hv)
theorem zj_aload (C : zj_cx p R s mi args meth c A ex nL own cc d md D tys) {i : Nat} {x : Nat} (hd : (pc, Instr.aload i, 2) ∈ md.1) (hn : pc + 2 = n) (hl : zj_lk lv i = some (.ref x)) (h : zj_go p l e R s mi args below meth c Q D A nL n lv (.ref x :: kc) ws) : zj_go p l e R s mi args below meth c Q D A nL pc lv kc ws := by
  subst hn
  exact fun H locs ls hP hD hS hv => lv_aload C.1.1 C.1.2.1 (C.2.2.2.2.1 _ hd).1 (zj_lk_ok hv hl) (h H locs ls hP hD hS hv)
theorem zj_iload (C : zj_cx p R s mi args meth c A ex nL own cc d md D tys) {i : Nat} {x : Int32} (hd : (pc, Instr.iload i, 2) ∈ md.1) (hn : pc + 2 = n) (hl : zj_lk lv i = some (.int x)) (h : zj_go p l e R s mi args below meth c Q D A nL n lv (.int x :: kc) ws) : zj_go p l e R s mi args below meth c Q D A nL pc lv kc ws := by
  subst hn
  exact fun H locs ls hP hD hS hv => lv_iload C.1.1 C.1.2.1 (C.2.2.2.2.1 _ hd).1 (zj_lk_ok hv hl) (h H locs ls hP hD hS hv)
theorem zj_istore_n (C : zj_cx p R s mi args meth c A ex nL own cc d md D tys) {k : Fin 4} {i : Nat} {x : Int32} (hd : (pc, Instr.istore_n k, 1) ∈ md.1) (hi : (k : Nat) = i) (hn : pc + 1 = n) (hi2 : i < nL) (hl : zj_set lv i (.int x) = lv') (h : zj_go p l e R s mi args below meth c Q D A nL n lv' kc ws) : zj_go p l e R s mi args below meth c Q D A nL pc lv (.int x :: kc) ws := by
  subst hn
  exact fun H locs ls hP hD hS hv => lv_istore_n C.1.1 C.1.2.1 (C.2.2.2.2.1 _ hd).1 hi hv hi2 hl (fun ls' hv' => h H locs ls' hP hD hS hv')
theorem zj_istore (C : zj_cx p R s mi args meth c A ex nL own cc d md D tys) {i : Nat} {x : Int32} (hd : (pc, Instr.istore i, 2) ∈ md.1) (hn : pc + 2 = n) (hi2 : i < nL) (hl : zj_set lv i (.int x) = lv') (h : zj_go p l e R s mi args below meth c Q D A nL n lv' kc ws) : zj_go p l e R s mi args below meth c Q D A nL pc lv (.int x :: kc) ws := by
  subst hn
  exact fun H locs ls hP hD hS hv => lv_istore C.1.1 C.1.2.1 (C.2.2.2.2.1 _ hd).1 hv hi2 hl (fun ls' hv' => h H locs ls' hP hD hS hv')
theorem zj_astore_n (C : zj_cx p R s mi args meth c A ex nL own cc d md D tys) {k : Fin 4} {i : Nat} {x : Nat} (hd : (pc, Instr.astore_n k, 1) ∈ md.1) (hi : (k : Nat) = i) (hn : pc + 1 = n) (hi2 : i < nL) (hl : zj_set lv i (.ref x) = lv') (h : zj_go p l e R s mi args below meth c Q D A nL n lv' kc ws) : zj_go p l e R s mi args below meth c Q D A nL pc lv (.ref x :: kc) ws := by
  subst hn
  exact fun H locs ls hP hD hS hv => lv_astore_n C.1.1 C.1.2.1 (C.2.2.2.2.1 _ hd).1 hi hv hi2 hl (fun ls' hv' => h H locs ls' hP hD hS hv')
theorem zj_astore (C : zj_cx p R s mi args meth c A ex nL own cc d md D tys) {i : Nat} {x : Nat} (hd : (pc, Instr.astore i, 2) ∈ md.1) (hn : pc + 2 = n) (hi2 : i < nL) (hl : zj_set lv i (.ref x) = lv') (h : zj_go p l e R s mi args below meth c Q D A nL n lv' kc ws) : zj_go p l e R s mi args below meth c Q D A nL pc lv (.ref x :: kc) ws := by
  subst hn
  exact fun H locs ls hP hD hS hv => lv_astore C.1.1 C.1.2.1 (C.2.2.2.2.1 _ hd).1 hv hi2 hl (fun ls' hv' => h H locs ls' hP hD hS hv')
theorem zj_iconst (C : zj_cx p R s mi args meth c A ex nL own cc d md D tys) {z : Int} {v : Int32} (hd : (pc, Instr.iconst z, 1) ∈ md.1) (hn : pc + 1 = n) (hz : Int32.ofInt z = v) (h : zj_go p l e R s mi args below meth c Q D A nL n lv (.int v :: kc) ws) : zj_go p l e R s mi args below meth c Q D A nL pc lv kc ws := by
  subst hn
  exact fun H locs ls hP hD hS hv => lv_iconst C.1.1 C.1.2.1 (C.2.2.2.2.1 _ hd).1 hz (h H locs ls hP hD hS hv)
theorem zj_bipush (C : zj_cx p R s mi args meth c A ex nL own cc d md D tys) {z : Int} {v : Int32} (hd : (pc, Instr.bipush z, 2) ∈ md.1) (hn : pc + 2 = n) (hz : (Int8.ofInt z).toInt32 = v) (h : zj_go p l e R s mi args below meth c Q D A nL n lv (.int v :: kc) ws) : zj_go p l e R s mi args below meth c Q D A nL pc lv kc ws := by
  subst hn
  exact fun H locs ls hP hD hS hv => lv_bipush C.1.1 C.1.2.1 (C.2.2.2.2.1 _ hd).1 hz (h H locs ls hP hD hS hv)
theorem zj_sipush (C : zj_cx p R s mi args meth c A ex nL own cc d md D tys) {z : Int} {v : Int32} (hd : (pc, Instr.sipush z, 3) ∈ md.1) (hn : pc + 3 = n) (hz : (Int16.ofInt z).toInt32 = v) (h : zj_go p l e R s mi args below meth c Q D A nL n lv (.int v :: kc) ws) : zj_go p l e R s mi args below meth c Q D A nL pc lv kc ws := by
  subst hn
  exact fun H locs ls hP hD hS hv => lv_sipush C.1.1 C.1.2.1 (C.2.2.2.2.1 _ hd).1 hz (h H locs ls hP hD hS hv)
theorem zj_iadd (C : zj_cx p R s mi args meth c A ex nL own cc d md D tys) {x y v : Int32} (hd : (pc, Instr.iadd, 1) ∈ md.1) (hn : pc + 1 = n) (hz : x + y = v) (h : zj_go p l e R s mi args below meth c Q D A nL n lv (.int v :: kc) ws) : zj_go p l e R s mi args below meth c Q D A nL pc lv (.int y :: .int x :: kc) ws := by
  subst hn
  subst hz
  exact fun H locs ls hP hD hS hv => lv_iadd C.1.1 C.1.2.1 (C.2.2.2.2.1 _ hd).1 (h H locs ls hP hD hS hv)
theorem zj_isub (C : zj_cx p R s mi args meth c A ex nL own cc d md D tys) {x y v : Int32} (hd : (pc, Instr.isub, 1) ∈ md.1) (hn : pc + 1 = n) (hz : x - y = v) (h : zj_go p l e R s mi args below meth c Q D A nL n lv (.int v :: kc) ws) : zj_go p l e R s mi args below meth c Q D A nL pc lv (.int y :: .int x :: kc) ws := by
  subst hn
  subst hz
  exact fun H locs ls hP hD hS hv => lv_isub C.1.1 C.1.2.1 (C.2.2.2.2.1 _ hd).1 (h H locs ls hP hD hS hv)
theorem zj_imul (C : zj_cx p R s mi args meth c A ex nL own cc d md D tys) {x y v : Int32} (hd : (pc, Instr.imul, 1) ∈ md.1) (hn : pc + 1 = n) (hz : x * y = v) (h : zj_go p l e R s mi args below meth c Q D A nL n lv (.int v :: kc) ws) : zj_go p l e R s mi args below meth c Q D A nL pc lv (.int y :: .int x :: kc) ws := by
  subst hn
  subst hz
  exact fun H locs ls hP hD hS hv => lv_imul C.1.1 C.1.2.1 (C.2.2.2.2.1 _ hd).1 (h H locs ls hP hD hS hv)
theorem zj_iand (C : zj_cx p R s mi args meth c A ex nL own cc d md D tys) {x y v : Int32} (hd : (pc, Instr.iand, 1) ∈ md.1) (hn : pc + 1 = n) (hz : x &&& y = v) (h : zj_go p l e R s mi args below meth c Q D A nL n lv (.int v :: kc) ws) : zj_go p l e R s mi args below meth c Q D A nL pc lv (.int y :: .int x :: kc) ws := by
  subst hn
  subst hz
  exact fun H locs ls hP hD hS hv => lv_iand C.1.1 C.1.2.1 (C.2.2.2.2.1 _ hd).1 (h H locs ls hP hD hS hv)
theorem zj_ior (C : zj_cx p R s mi args meth c A ex nL own cc d md D tys) {x y v : Int32} (hd : (pc, Instr.ior, 1) ∈ md.1) (hn : pc + 1 = n) (hz : x ||| y = v) (h : zj_go p l e R s mi args below meth c Q D A nL n lv (.int v :: kc) ws) : zj_go p l e R s mi args below meth c Q D A nL pc lv (.int y :: .int x :: kc) ws := by
  subst hn
  subst hz
  exact fun H locs ls hP hD hS hv => lv_ior C.1.1 C.1.2.1 (C.2.2.2.2.1 _ hd).1 (h H locs ls hP hD hS hv)
theorem zj_ishl (C : zj_cx p R s mi args meth c A ex nL own cc d md D tys) {x y v : Int32} (hd : (pc, Instr.ishl, 1) ∈ md.1) (hn : pc + 1 = n) (hz : x <<< (y &&& 31) = v) (h : zj_go p l e R s mi args below meth c Q D A nL n lv (.int v :: kc) ws) : zj_go p l e R s mi args below meth c Q D A nL pc lv (.int y :: .int x :: kc) ws := by
  subst hn
  subst hz
  exact fun H locs ls hP hD hS hv => lv_ishl C.1.1 C.1.2.1 (C.2.2.2.2.1 _ hd).1 (h H locs ls hP hD hS hv)
theorem zj_ishr (C : zj_cx p R s mi args meth c A ex nL own cc d md D tys) {x y v : Int32} (hd : (pc, Instr.ishr, 1) ∈ md.1) (hn : pc + 1 = n) (hz : x >>> (y &&& 31) = v) (h : zj_go p l e R s mi args below meth c Q D A nL n lv (.int v :: kc) ws) : zj_go p l e R s mi args below meth c Q D A nL pc lv (.int y :: .int x :: kc) ws := by
  subst hn
  subst hz
  exact fun H locs ls hP hD hS hv => lv_ishr C.1.1 C.1.2.1 (C.2.2.2.2.1 _ hd).1 (h H locs ls hP hD hS hv)
theorem zj_if_eq (C : zj_cx p R s mi args meth c A ex nL own cc d md D tys) {x : Int32} {off : Int} {tgt : Nat} (hd : (pc, Instr.ifCond .eq off, 3) ∈ md.1) (hn : pc + 3 = n) (ht : (pc : Int) + off = (tgt : Int)) (kt : x = 0 → zj_go p l e R s mi args below meth c Q D A nL tgt lv kc ws) (kf : ¬ x = 0 → zj_go p l e R s mi args below meth c Q D A nL n lv kc ws) : zj_go p l e R s mi args below meth c Q D A nL pc lv (.int x :: kc) ws := by
  subst hn
  exact fun H locs ls hP hD hS hv => lv_if_eq C.1.1 C.1.2.1 (C.2.2.2.2.1 _ hd).1 ht (fun q => kt q H locs ls hP hD hS hv) (fun q => kf q H locs ls hP hD hS hv)
theorem zj_if_ne (C : zj_cx p R s mi args meth c A ex nL own cc d md D tys) {x : Int32} {off : Int} {tgt : Nat} (hd : (pc, Instr.ifCond .ne off, 3) ∈ md.1) (hn : pc + 3 = n) (ht : (pc : Int) + off = (tgt : Int)) (kt : ¬ x = 0 → zj_go p l e R s mi args below meth c Q D A nL tgt lv kc ws) (kf : x = 0 → zj_go p l e R s mi args below meth c Q D A nL n lv kc ws) : zj_go p l e R s mi args below meth c Q D A nL pc lv (.int x :: kc) ws := by
  subst hn
  exact fun H locs ls hP hD hS hv => lv_if_ne C.1.1 C.1.2.1 (C.2.2.2.2.1 _ hd).1 ht (fun q => kt q H locs ls hP hD hS hv) (fun q => kf q H locs ls hP hD hS hv)
theorem zj_if_lt (C : zj_cx p R s mi args meth c A ex nL own cc d md D tys) {x : Int32} {off : Int} {tgt : Nat} (hd : (pc, Instr.ifCond .lt off, 3) ∈ md.1) (hn : pc + 3 = n) (ht : (pc : Int) + off = (tgt : Int)) (kt : x < 0 → zj_go p l e R s mi args below meth c Q D A nL tgt lv kc ws) (kf : ¬ x < 0 → zj_go p l e R s mi args below meth c Q D A nL n lv kc ws) : zj_go p l e R s mi args below meth c Q D A nL pc lv (.int x :: kc) ws := by
  subst hn
  exact fun H locs ls hP hD hS hv => lv_if_lt C.1.1 C.1.2.1 (C.2.2.2.2.1 _ hd).1 ht (fun q => kt q H locs ls hP hD hS hv) (fun q => kf q H locs ls hP hD hS hv)
theorem zj_if_ge (C : zj_cx p R s mi args meth c A ex nL own cc d md D tys) {x : Int32} {off : Int} {tgt : Nat} (hd : (pc, Instr.ifCond .ge off, 3) ∈ md.1) (hn : pc + 3 = n) (ht : (pc : Int) + off = (tgt : Int)) (kt : 0 ≤ x → zj_go p l e R s mi args below meth c Q D A nL tgt lv kc ws) (kf : ¬ 0 ≤ x → zj_go p l e R s mi args below meth c Q D A nL n lv kc ws) : zj_go p l e R s mi args below meth c Q D A nL pc lv (.int x :: kc) ws := by
  subst hn
  exact fun H locs ls hP hD hS hv => lv_if_ge C.1.1 C.1.2.1 (C.2.2.2.2.1 _ hd).1 ht (fun q => kt q H locs ls hP hD hS hv) (fun q => kf q H locs ls hP hD hS hv)
theorem zj_if_gt (C : zj_cx p R s mi args meth c A ex nL own cc d md D tys) {x : Int32} {off : Int} {tgt : Nat} (hd : (pc, Instr.ifCond .gt off, 3) ∈ md.1) (hn : pc + 3 = n) (ht : (pc : Int) + off = (tgt : Int)) (kt : 0 < x → zj_go p l e R s mi args below meth c Q D A nL tgt lv kc ws) (kf : ¬ 0 < x → zj_go p l e R s mi args below meth c Q D A nL n lv kc ws) : zj_go p l e R s mi args below meth c Q D A nL pc lv (.int x :: kc) ws := by
  subst hn
  exact fun H locs ls hP hD hS hv => lv_if_gt C.1.1 C.1.2.1 (C.2.2.2.2.1 _ hd).1 ht (fun q => kt q H locs ls hP hD hS hv) (fun q => kf q H locs ls hP hD hS hv)
theorem zj_if_le (C : zj_cx p R s mi args meth c A ex nL own cc d md D tys) {x : Int32} {off : Int} {tgt : Nat} (hd : (pc, Instr.ifCond .le off, 3) ∈ md.1) (hn : pc + 3 = n) (ht : (pc : Int) + off = (tgt : Int)) (kt : x ≤ 0 → zj_go p l e R s mi args below meth c Q D A nL tgt lv kc ws) (kf : ¬ x ≤ 0 → zj_go p l e R s mi args below meth c Q D A nL n lv kc ws) : zj_go p l e R s mi args below meth c Q D A nL pc lv (.int x :: kc) ws := by
  subst hn
  exact fun H locs ls hP hD hS hv => lv_if_le C.1.1 C.1.2.1 (C.2.2.2.2.1 _ hd).1 ht (fun q => kt q H locs ls hP hD hS hv) (fun q => kf q H locs ls hP hD hS hv)
theorem zj_icmp_eq (C : zj_cx p R s mi args meth c A ex nL own cc d md D tys) {x y : Int32} {off : Int} {tgt : Nat} (hd : (pc, Instr.if_icmp .eq off, 3) ∈ md.1) (hn : pc + 3 = n) (ht : (pc : Int) + off = (tgt : Int)) (kt : x = y → zj_go p l e R s mi args below meth c Q D A nL tgt lv kc ws) (kf : ¬ x = y → zj_go p l e R s mi args below meth c Q D A nL n lv kc ws) : zj_go p l e R s mi args below meth c Q D A nL pc lv (.int y :: .int x :: kc) ws := by
  subst hn
  exact fun H locs ls hP hD hS hv => lv_icmp_eq C.1.1 C.1.2.1 (C.2.2.2.2.1 _ hd).1 ht (fun q => kt q H locs ls hP hD hS hv) (fun q => kf q H locs ls hP hD hS hv)
theorem zj_icmp_ne (C : zj_cx p R s mi args meth c A ex nL own cc d md D tys) {x y : Int32} {off : Int} {tgt : Nat} (hd : (pc, Instr.if_icmp .ne off, 3) ∈ md.1) (hn : pc + 3 = n) (ht : (pc : Int) + off = (tgt : Int)) (kt : ¬ x = y → zj_go p l e R s mi args below meth c Q D A nL tgt lv kc ws) (kf : x = y → zj_go p l e R s mi args below meth c Q D A nL n lv kc ws) : zj_go p l e R s mi args below meth c Q D A nL pc lv (.int y :: .int x :: kc) ws := by
  subst hn
  exact fun H locs ls hP hD hS hv => lv_icmp_ne C.1.1 C.1.2.1 (C.2.2.2.2.1 _ hd).1 ht (fun q => kt q H locs ls hP hD hS hv) (fun q => kf q H locs ls hP hD hS hv)
theorem zj_icmp_lt (C : zj_cx p R s mi args meth c A ex nL own cc d md D tys) {x y : Int32} {off : Int} {tgt : Nat} (hd : (pc, Instr.if_icmp .lt off, 3) ∈ md.1) (hn : pc + 3 = n) (ht : (pc : Int) + off = (tgt : Int)) (kt : x < y → zj_go p l e R s mi args below meth c Q D A nL tgt lv kc ws) (kf : ¬ x < y → zj_go p l e R s mi args below meth c Q D A nL n lv kc ws) : zj_go p l e R s mi args below meth c Q D A nL pc lv (.int y :: .int x :: kc) ws := by
  subst hn
  exact fun H locs ls hP hD hS hv => lv_icmp_lt C.1.1 C.1.2.1 (C.2.2.2.2.1 _ hd).1 ht (fun q => kt q H locs ls hP hD hS hv) (fun q => kf q H locs ls hP hD hS hv)
theorem zj_icmp_ge (C : zj_cx p R s mi args meth c A ex nL own cc d md D tys) {x y : Int32} {off : Int} {tgt : Nat} (hd : (pc, Instr.if_icmp .ge off, 3) ∈ md.1) (hn : pc + 3 = n) (ht : (pc : Int) + off = (tgt : Int)) (kt : y ≤ x → zj_go p l e R s mi args below meth c Q D A nL tgt lv kc ws) (kf : ¬ y ≤ x → zj_go p l e R s mi args below meth c Q D A nL n lv kc ws) : zj_go p l e R s mi args below meth c Q D A nL pc lv (.int y :: .int x :: kc) ws := by
  subst hn
  exact fun H locs ls hP hD hS hv => lv_icmp_ge C.1.1 C.1.2.1 (C.2.2.2.2.1 _ hd).1 ht (fun q => kt q H locs ls hP hD hS hv) (fun q => kf q H locs ls hP hD hS hv)
theorem zj_icmp_gt (C : zj_cx p R s mi args meth c A ex nL own cc d md D tys) {x y : Int32} {off : Int} {tgt : Nat} (hd : (pc, Instr.if_icmp .gt off, 3) ∈ md.1) (hn : pc + 3 = n) (ht : (pc : Int) + off = (tgt : Int)) (kt : y < x → zj_go p l e R s mi args below meth c Q D A nL tgt lv kc ws) (kf : ¬ y < x → zj_go p l e R s mi args below meth c Q D A nL n lv kc ws) : zj_go p l e R s mi args below meth c Q D A nL pc lv (.int y :: .int x :: kc) ws := by
  subst hn
  exact fun H locs ls hP hD hS hv => lv_icmp_gt C.1.1 C.1.2.1 (C.2.2.2.2.1 _ hd).1 ht (fun q => kt q H locs ls hP hD hS hv) (fun q => kf q H locs ls hP hD hS hv)
theorem zj_icmp_le (C : zj_cx p R s mi args meth c A ex nL own cc d md D tys) {x y : Int32} {off : Int} {tgt : Nat} (hd : (pc, Instr.if_icmp .le off, 3) ∈ md.1) (hn : pc + 3 = n) (ht : (pc : Int) + off = (tgt : Int)) (kt : x ≤ y → zj_go p l e R s mi args below meth c Q D A nL tgt lv kc ws) (kf : ¬ x ≤ y → zj_go p l e R s mi args below meth c Q D A nL n lv kc ws) : zj_go p l e R s mi args below meth c Q D A nL pc lv (.int y :: .int x :: kc) ws := by
  subst hn
  exact fun H locs ls hP hD hS hv => lv_icmp_le C.1.1 C.1.2.1 (C.2.2.2.2.1 _ hd).1 ht (fun q => kt q H locs ls hP hD hS hv) (fun q => kf q H locs ls hP hD hS hv)
theorem zj_acmp_eq (C : zj_cx p R s mi args meth c A ex nL own cc d md D tys) {x y : Nat} {off : Int} {tgt : Nat} (hd : (pc, Instr.if_acmp .eq off, 3) ∈ md.1) (hn : pc + 3 = n) (ht : (pc : Int) + off = (tgt : Int)) (kt : x = y → zj_go p l e R s mi args below meth c Q D A nL tgt lv kc ws) (kf : ¬ x = y → zj_go p l e R s mi args below meth c Q D A nL n lv kc ws) : zj_go p l e R s mi args below meth c Q D A nL pc lv (.ref y :: .ref x :: kc) ws := by
  subst hn
  exact fun H locs ls hP hD hS hv => lv_acmp_eq (rx := some x) (ry := some y) C.1.1 C.1.2.1 (C.2.2.2.2.1 _ hd).1 ht (fun q => kt (Option.some.inj q) H locs ls hP hD hS hv) (fun q => kf (fun h => q (congrArg some h)) H locs ls hP hD hS hv)
theorem zj_acmp_ne (C : zj_cx p R s mi args meth c A ex nL own cc d md D tys) {x y : Nat} {off : Int} {tgt : Nat} (hd : (pc, Instr.if_acmp .ne off, 3) ∈ md.1) (hn : pc + 3 = n) (ht : (pc : Int) + off = (tgt : Int)) (kt : ¬ x = y → zj_go p l e R s mi args below meth c Q D A nL tgt lv kc ws) (kf : x = y → zj_go p l e R s mi args below meth c Q D A nL n lv kc ws) : zj_go p l e R s mi args below meth c Q D A nL pc lv (.ref y :: .ref x :: kc) ws := by
  subst hn
  exact fun H locs ls hP hD hS hv => lv_acmp_ne (rx := some x) (ry := some y) C.1.1 C.1.2.1 (C.2.2.2.2.1 _ hd).1 ht (fun q => kt (fun h => q (congrArg some h)) H locs ls hP hD hS hv) (fun q => kf (Option.some.inj q) H locs ls hP hD hS hv)
theorem zj_goto (C : zj_cx p R s mi args meth c A ex nL own cc d md D tys) {off : Int} {tgt : Nat} (hd : (pc, Instr.goto off, 3) ∈ md.1) (ht : (pc : Int) + off = (tgt : Int)) (h : zj_go p l e R s mi args below meth c Q D A nL tgt lv kc ws) : zj_go p l e R s mi args below meth c Q D A nL pc lv kc ws :=
  fun H locs ls hP hD hS hv => lv_goto C.1.1 C.1.2.1 (C.2.2.2.2.1 _ hd).1 ht (h H locs ls hP hD hS hv)
theorem zj_iinc (C : zj_cx p R s mi args meth c A ex nL own cc d md D tys) {i k : Nat} {z : Int} {x v : Int32} (hd : (pc, Instr.iinc i z, 3) ∈ md.1) (hn : pc + 3 = n) (hk : lv[k]? = some (i, .int x)) (hz : x + Int32.ofInt z = v) (hi : i < nL) (hl : zj_set lv i (.int v) = lv') (h : zj_go p l e R s mi args below meth c Q D A nL n lv' kc ws) : zj_go p l e R s mi args below meth c Q D A nL pc lv kc ws := by
  subst hn
  exact fun H locs ls hP hD hS hv => lv_iinc C.1.1 C.1.2.1 (C.2.2.2.2.1 _ hd).1 hv hk hz hi hl (fun ls' hv' => h H locs ls' hP hD hS hv')
theorem zj_dup (C : zj_cx p R s mi args meth c A ex nL own cc d md D tys) {v : Value} (hd : (pc, Instr.dup, 1) ∈ md.1) (hn : pc + 1 = n) (hc : v.category = 1) (h : zj_go p l e R s mi args below meth c Q D A nL n lv (v :: v :: kc) ws) : zj_go p l e R s mi args below meth c Q D A nL pc lv (v :: kc) ws := by
  subst hn
  exact fun H locs ls hP hD hS hv => lv_dup C.1.1 C.1.2.1 (C.2.2.2.2.1 _ hd).1 hc (h H locs ls hP hD hS hv)
theorem zj_pop (C : zj_cx p R s mi args meth c A ex nL own cc d md D tys) {v : Value} (hd : (pc, Instr.pop, 1) ∈ md.1) (hn : pc + 1 = n) (hc : v.category = 1) (h : zj_go p l e R s mi args below meth c Q D A nL n lv kc ws) : zj_go p l e R s mi args below meth c Q D A nL pc lv (v :: kc) ws := by
  subst hn
  exact fun H locs ls hP hD hS hv => lv_pop C.1.1 C.1.2.1 (C.2.2.2.2.1 _ hd).1 hc (h H locs ls hP hD hS hv)
/-- a field is read -/
theorem zj_get (C : zj_cx p R s mi args meth c A ex nL own cc d md D tys) {ix a q0 ci : Nat} {q : Nat × Nat × Nat × Bool} {fs : List Value} {v : Value} (hd : (pc, Instr.getfield ix, 3) ∈ md.1) (hn : pc + 3 = n) (hq : zx_mF md.2.1 ix = some q) (ho : ws[q0]? = some (a, .inr (ci, fs))) (hc : ci = q.1) (hv : fs[q.2.1]? = some v) (h : zj_go p l e R s mi args below meth c Q D A nL n lv (v :: kc) ws) : zj_go p l e R s mi args below meth c Q D A nL pc lv (.ref a :: kc) ws := by
  subst hn
  intro H locs ls hP hD hS hl
  obtain ⟨⟨hx, hb, hown, hts, hnw, hA, hR, hin, hnL, hCX, hao, hCK, hMK⟩, -, -, -, htb, hK⟩ := C
  obtain ⟨Cn, Tn, N, ty, m1, m2, m3, m4, m5, m6, m7⟩ := hMK.1 ix q hq
  exact va_get (D := D) (C := Cn) (T := Tn) (N := N) hx hb hts (hCK _ _ _ _ m1).1 hown hK hP q0 ho (by rw [hc]; exact m1) q.2.1 m2 (hts _ m3) (fun _ h9 => h9) hv (htb _ hd).1 (h H locs ls hP hD hS hl)
/-- a field is written -/
theorem zj_put (C : zj_cx p R s mi args meth c A ex nL own cc d md D tys) {ix a q0 ci : Nat} {q : Nat × Nat × Nat × Bool} {fs : List Value} {v : Value} (hd : (pc, Instr.putfield ix, 3) ∈ md.1) (hn : pc + 3 = n) (hq : zx_mF md.2.1 ix = some q) (ho : ws[q0]? = some (a, .inr (ci, fs))) (hc : ci = q.1) (hl2 : q.2.1 < fs.length) (hf : q.2.2.2 = false) (hfit : ∀ ty, zx_tag ty = q.2.2.1 → narrow ty v = v ∧ fits ty v = true) (h : zj_go p l e R s mi args below meth c Q D A nL n lv kc (ws.set q0 (a, .inr (ci, fs.set q.2.1 v)))) : zj_go p l e R s mi args below meth c Q D A nL pc lv (v :: .ref a :: kc) ws := by
  subst hn
  intro H locs ls hP hD hS hl
  obtain ⟨⟨hx, hb, hown, hts, hnw, hA, hR, hin, hnL, hCX, hao, hCK, hMK⟩, -, -, -, htb, hK⟩ := C
  obtain ⟨Cn, Tn, N, ty, m1, m2, m3, m4, m5, m6, m7⟩ := hMK.1 ix q hq
  obtain ⟨u1, ty0, u2, u3, -⟩ := hCK _ _ _ _ m1
  obtain ⟨n1, n2⟩ := hfit ty m5
  exact va_put (D := D) (C := Cn) (T := Tn) (N := N) hx hb hts u1 ty0 u2 u3 hown hK hP hD hS q0 ho (by rw [hc]; exact m1) q.2.1 m2 (hts _ m3) (fun _ h9 => h9) (by rw [m6]; exact hf) m4 n1 n2 hl2 (htb _ hd).1 (fun H1 locs1 P1 D1 S1 => h H1 locs1 ls P1 D1 S1 hl)
theorem zj_fit_i {t : Nat} (ht : t = 0) (x : Int32) : ∀ ty, zx_tag ty = t → narrow ty (.int x) = .int x ∧ fits ty (.int x) = true := by
  subst ht
  intro ty h
  cases ty <;> first | exact ⟨rfl, rfl⟩ | (simp [zx_tag] at h; done)
theorem zj_fit_r {t : Nat} (ht : t = 3) (x : Nat) : ∀ ty, zx_tag ty = t → narrow ty (.ref x) = .ref x ∧ fits ty (.ref x) = true := by
  subst ht
  intro ty h
  cases ty <;> first | exact ⟨rfl, rfl⟩ | (simp [zx_tag] at h; done)
theorem zj_fit_l {t : Nat} (ht : t = 2) (x : Int64) : ∀ ty, zx_tag ty = t → narrow ty (.long x) = .long x ∧ fits ty (.long x) = true := by
  subst ht
  intro ty h
  cases ty <;> first | exact ⟨rfl, rfl⟩ | (simp [zx_tag] at h; done)
/-- a row's place -/
def zj_row (tys : List (ClassId × FieldType)) (ws : va_W) (i a n : Nat) (ty : FieldType) (f : Nat → Int32) : Prop := ∃ (cA : ClassId) (t0 : Nat), ws[i]? = some (a, .inl (cA, n, .inl f)) ∧ tys[t0]? = some (cA, ty)
theorem zj_iald (C : zj_cx p R s mi args meth c A ex nL own cc d md D tys) {q0 a N : Nat} {f : Nat → Int32} {i v : Int32} (hd : (pc, Instr.iaload, 1) ∈ md.1) (hn : pc + 1 = n) (hr : zj_row tys ws q0 a N .int f) (hi : vp_in i N) (hz : f i.toNatClampNeg = v) (h : zj_go p l e R s mi args below meth c Q D A nL n lv (.int v :: kc) ws) : zj_go p l e R s mi args below meth c Q D A nL pc lv (.int i :: .ref a :: kc) ws := by
  subst hn
  subst hz
  obtain ⟨cA, t0, h1, h2⟩ := hr
  exact fun H locs ls hP hD hS hv => va_iald C.1.1 C.1.2.1 C.2.2.2.2.2 hP q0 t0 h1 h2 hi (C.2.2.2.2.1 _ hd).1 (h H locs ls hP hD hS hv)
theorem zj_bald (C : zj_cx p R s mi args meth c A ex nL own cc d md D tys) {q0 a N : Nat} {f : Nat → Int32} {i v : Int32} (hd : (pc, Instr.baload, 1) ∈ md.1) (hn : pc + 1 = n) (hr : zj_row tys ws q0 a N .byte f) (hi : vp_in i N) (hz : f i.toNatClampNeg = v) (h : zj_go p l e R s mi args below meth c Q D A nL n lv (.int v :: kc) ws) : zj_go p l e R s mi args below meth c Q D A nL pc lv (.int i :: .ref a :: kc) ws := by
  subst hn
  subst hz
  obtain ⟨cA, t0, h1, h2⟩ := hr
  exact fun H locs ls hP hD hS hv => va_bald C.1.1 C.1.2.1 C.2.2.2.2.2 hP q0 t0 h1 h2 hi (C.2.2.2.2.1 _ hd).1 (h H locs ls hP hD hS hv)
theorem zj_iast (C : zj_cx p R s mi args meth c A ex nL own cc d md D tys) {q0 a N : Nat} {f : Nat → Int32} {i x : Int32} (hd : (pc, Instr.iastore, 1) ∈ md.1) (hn : pc + 1 = n) (hr : zj_row tys ws q0 a N .int f) (hi : vp_in i N) (h : ∀ cA : ClassId, ws[q0]? = some (a, .inl (cA, N, .inl f)) → zj_go p l e R s mi args below meth c Q D A nL n lv kc (ws.set q0 (a, .inl (cA, N, .inl (upd f i.toNatClampNeg x))))) : zj_go p l e R s mi args below meth c Q D A nL pc lv (.int x :: .int i :: .ref a :: kc) ws := by
  subst hn
  obtain ⟨cA, t0, h1, h2⟩ := hr
  exact fun H locs ls hP hD hS hv => va_iast C.1.1 C.1.2.1 C.2.2.2.2.2 hP hD hS q0 t0 h1 h2 hi (C.2.2.2.2.1 _ hd).1 (fun H1 locs1 P1 D1 S1 => h cA h1 H1 locs1 ls P1 D1 S1 hv)
/-- long values -/
theorem zj_ldc2 (C : zj_cx p R s mi args meth c A ex nL own cc d md D tys) {ix : Nat} {v : Int64} (hd : (pc, Instr.ldc2_w ix, 3) ∈ md.1) (hn : pc + 3 = n) (hw : Jvm.Cond.constantLong own ix v ∈ zx_Ts) (h : zj_go p l e R s mi args below meth c Q D A nL n lv (.long v :: kc) ws) : zj_go p l e R s mi args below meth c Q D A nL pc lv kc ws := by
  subst hn
  exact fun H locs ls hP hD hS hv => lv_ldc2 C.1.1 C.1.2.1 C.1.2.2.1 (C.1.2.2.2.1 _ hw) (C.2.2.2.2.1 _ hd).1 (h H locs ls hP hD hS hv)
theorem zj_i2l (C : zj_cx p R s mi args meth c A ex nL own cc d md D tys) {x : Int32} {v : Int64} (hd : (pc, Instr.i2l, 1) ∈ md.1) (hn : pc + 1 = n) (hz : x.toInt64 = v) (h : zj_go p l e R s mi args below meth c Q D A nL n lv (.long v :: kc) ws) : zj_go p l e R s mi args below meth c Q D A nL pc lv (.int x :: kc) ws := by
  subst hn
  exact fun H locs ls hP hD hS hv => lv_i2l C.1.1 C.1.2.1 (C.2.2.2.2.1 _ hd).1 hz (h H locs ls hP hD hS hv)
theorem zj_lshl (C : zj_cx p R s mi args meth c A ex nL own cc d md D tys) {x v : Int64} {y : Int32} (hd : (pc, Instr.lshl, 1) ∈ md.1) (hn : pc + 1 = n) (hz : x <<< (y.toInt64 &&& 63) = v) (h : zj_go p l e R s mi args below meth c Q D A nL n lv (.long v :: kc) ws) : zj_go p l e R s mi args below meth c Q D A nL pc lv (.int y :: .long x :: kc) ws := by
  subst hn
  exact fun H locs ls hP hD hS hv => lv_lshl C.1.1 C.1.2.1 (C.2.2.2.2.1 _ hd).1 hz (h H locs ls hP hD hS hv)
theorem zj_lor (C : zj_cx p R s mi args meth c A ex nL own cc d md D tys) {x y v : Int64} (hd : (pc, Instr.lor, 1) ∈ md.1) (hn : pc + 1 = n) (hz : x ||| y = v) (h : zj_go p l e R s mi args below meth c Q D A nL n lv (.long v :: kc) ws) : zj_go p l e R s mi args below meth c Q D A nL pc lv (.long y :: .long x :: kc) ws := by
  subst hn
  subst hz
  exact fun H locs ls hP hD hS hv => lv_lor C.1.1 C.1.2.1 (C.2.2.2.2.1 _ hd).1 (h H locs ls hP hD hS hv)
theorem zj_lcmp (C : zj_cx p R s mi args meth c A ex nL own cc d md D tys) {x y : Int64} {v : Int32} (hd : (pc, Instr.lcmp, 1) ∈ md.1) (hn : pc + 1 = n) (hz : lg_cmp x y = v) (h : zj_go p l e R s mi args below meth c Q D A nL n lv (.int v :: kc) ws) : zj_go p l e R s mi args below meth c Q D A nL pc lv (.long y :: .long x :: kc) ws := by
  subst hn
  subst hz
  exact fun H locs ls hP hD hS hv => W.lcmp C.1.1 C.1.2.1 (C.2.2.2.2.1 _ hd).1 (h H locs ls hP hD hS hv)
/-- a constant object -/
theorem zj_gets (C : zj_cx p R s mi args meth c A ex nL own cc d md D tys) {ix id a : Nat} (hd : (pc, Instr.getstatic ix, 3) ∈ md.1) (hn : pc + 3 = n) (hq : zx_mS md.2.1 ix = some id) (ha : ex[id]? = some a) (h : zj_go p l e R s mi args below meth c Q D A nL n lv (.ref a :: kc) ws) : zj_go p l e R s mi args below meth c Q D A nL pc lv kc ws := by
  subst hn
  intro H locs ls hP hD hS hl
  obtain ⟨⟨hx, hb, hown, hts, hnw, hA, hR, hin, hnL, hCX, hao, hCK, hMK⟩, -, -, -, htb, hK⟩ := C
  obtain ⟨t, t1, t2, t3⟩ := hMK.2.1 ix id hq
  obtain ⟨a', e1, e2⟩ := hCX.1.1 t t1
  rw [t2, ha] at e1
  have e1 : a = a' := Option.some.inj e1
  subst e1
  rcases t3 with t3 | ⟨host, t3⟩
  · exact va_gets hx hb e2 hS hown (hts _ t3) (fun _ h => h) (htb _ hd).1 (h H locs ls hP hD hS hl)
  · exact va_getsN hx hb e2 hS hown (va_Nw.use rfl (hnw _ t3)) (fun _ h => h) (htb _ hd).1 (h H locs ls hP hD hS hl)
/-- a field of a constant object -/
theorem zj_getx (C : zj_cx p R s mi args meth c A ex nL own cc d md D tys) {ix id a j : Nat} {key k : Int} {f : Bool} {row : List Int} {v : Int32} (hd : (pc, Instr.getfield ix, 3) ∈ md.1) (hn : pc + 3 = n) (hq : zx_mN md.2.1 (500000 + ix) = some (f, key, k)) (hr : (id, row) ∈ zx_Yt.1) (h8 : ¬ id < 8) (ha : ex[id]? = some a) (hv : row[key.toNat]? = some (v.toInt)) (h : zj_go p l e R s mi args below meth c Q D A nL n lv (.int v :: kc) ws) : zj_go p l e R s mi args below meth c Q D A nL pc lv (.ref a :: kc) ws := by
  subst hn
  intro H locs ls hP hD hS hl
  obtain ⟨⟨hx, hb, hown, hts, hnw, hA, hR, hin, hnL, hCX, hao, hCK, hMK⟩, -, -, -, htb, hK⟩ := C
  obtain ⟨o, nm, ds, rf, t1, t2, t3⟩ := hMK.2.2.2.2.2 ix f key k hq
  obtain ⟨a', e1, e2, e3, e4⟩ := hCX.2 _ hr
  have e2 : ex[id]? = some a' := e2
  rw [ha] at e2
  have e2 : a = a' := Option.some.inj e2
  subst e2
  have e4 : zx_XO row a A s s.heap := by
    have e5 : (if id < 8 then va_T .int a row.length (fun j => .int (Int32.ofInt (row.getD j 0))) A s s.heap else zx_XO row a A s s.heap) := e4
    rw [if_neg h8] at e5
    exact e5
  have e6 := e4.2 key.toNat o nm ds t1 _ hv
  rw [show Int32.ofInt v.toInt = v from Int32.ofInt_toInt v] at e6
  exact vk_getf hx hb e6 hS hown (hts _ t2) (fun x hx9 => t3 _ x hx9) (htb _ hd).1 (h H locs ls hP hD hS hl)
theorem zj_run_W {Z : Option Value → va_W → Prop} {av : Array Value} {st0 rest : List Value} {H : Heap} {locs : List Loc} {ls : Array Slot} (hS : va_S A s.heap H locs) (hl : lv_has ls nL lv) (hr : va_Run p l e R s mi args below meth c H locs 0 0 0 0 (F0 mi pc ls st0) rest (zj_Q D A tys ws Z av) A) (K : ∀ (v : Option Value) (ws' : va_W), zx_as ws' = zx_as ws → Z v ws' → zj_go p l e R s mi args below meth c Q D A nL (pc + 3) lv (v.toList ++ rest) ws') : W p l e R s mi args below meth c H locs 0 0 Q (F0 mi pc ls st0) := by
  intro T hT X
  obtain ⟨v, st₀, t, T', L, h0, X', hL, e1, e2, ⟨⟨v', ws', hvv, q2, q3, q4, q5, qZ⟩, hz, hk⟩, st⟩ := hr T hT X
  cases hvv
  rw [h0] at hz hk
  have hS' : va_S A s.heap T'.heap (locs ++ L) := ⟨Nat.le_trans hS.1 (by rw [e1]; exact hz), fun q h1 h2 => by rw [e1, hk q (Nat.lt_of_lt_of_le h1 hS.1) h2]; exact hS.2.1 q h1 h2, fun q hq => by
    rcases List.mem_append.mp hq with h | h
    · exact hS.2.2 q h
    · exact hL q h⟩
  obtain ⟨t2, a1, c1⟩ := K v ws' q5 qZ T'.heap (locs ++ L) ls (by rw [e1]; exact q3) q4 hS' hl T' rfl X'
  exact ⟨t2, st t2 a1, c1⟩
theorem zj_callV (C : zj_cx p R s mi args meth c A ex nL own cc d md D tys) {ix a q0 ci : Nat} {q : Nat × Nat × Nat × Nat} {fs : List Value} {X : List Nat → List (ClassId × FieldType) → List Value → va_W → Prop} {Z : List Nat → List Value → va_W → Option Value → va_W → Prop} {As rest : List Value} (hd : (pc, Instr.invokevirtual ix, 3) ∈ md.1) (hn : pc + 3 = n) (hq : md.2.2.1 ix = some q) (hk : q.1 = 0) (h9 : q.2.2.2 ≠ 999) (hW : zj_W l d q.2.1 X Z) (hrm : zx_rmt[q.2.1]? = some (0, 0)) (hln : As.length = q.2.2.1 - 1) (ho : ws[q0]? = some (a, .inr (ci, fs))) (hc : ci = q.2.2.2) (hcat : (rest.map fun v => v.category).sum ≤ 8) (hkc : As.reverse ++ .ref a :: rest = kc) (hX : X ex tys (.ref a :: As) ws) (K : ∀ (v : Option Value) (ws' : va_W), zx_as ws' = zx_as ws → Z ex (.ref a :: As) ws v ws' → zj_go p l e R s mi args below meth c Q D A nL n lv (v.toList ++ rest) ws') : zj_go p l e R s mi args below meth c Q D A nL pc lv kc ws := by
  subst hn
  subst hkc
  intro H locs ls hP hD hS hl
  obtain ⟨⟨hx, hb, hown, hts, hnw, hA, hR, hin, hnL, hCX, hao, hCK, hMK⟩, hLK, hroom, hml, htb, hK⟩ := C
  obtain ⟨L5, L0, -⟩ := hLK.2 ix q hq
  obtain ⟨y, yc, maxL, ret, n1, n2, n3, n4, n5, n6, L0⟩ := L0 (by omega)
  obtain ⟨j1, j2, j3, j4, j50⟩ := L0.1 hk
  have hM := hW y yc maxL ret (0, 0) n1 hrm D A ex tys ws H.size (.ref a :: As) (fun x hx => hA x (Nat.le_trans hS.1 hx)) hX
  have hrooms : ({ frames := d, cells := 0, slots := 0, locals := 100 * d } : Room).frames + 1 ≤ R.frames ∧ 8 + (maxL + 11) + ({ frames := d, cells := 0, slots := 0, locals := 100 * d } : Room).locals ≤ R.locals := ⟨hroom.1, by show 8 + (maxL + 11) + 100 * d ≤ R.locals; omega⟩
  have hgT : GoodIn zx_Ts (Jvm.Cond.code y yc maxL ret :: zx_Ts) := by
    intro w hw
    have hw2 : w ∈ zx_Ts := (List.mem_cons.mp hw).elim (fun g => by rw [g]; exact n3) id
    exact ⟨hw2, good_of_word (List.all_eq_true.mp zx_Ts_good w hw2)⟩
  have hgo : ∀ w ∈ zx_Ts, w ∈ zx_Ts ∧ ((w.onTables && w.keeps) = true ∨ ∃ ty, w = .arrayClass ty) := fun w hw => ⟨hw, good_of_word (List.all_eq_true.mp zx_Ts_good w hw)⟩
  have hcall : CallFix p mi c cc nL s args zx_Ts own := ⟨hx, hb, hml, hown, hts⟩
  have hpre : ∀ U : State, U.heap = H → s.WarmedH U.vm → zx_Pc D vwCl A ex zx_sts zx_Yt zx_nw zx_aos tys ws H.size (.ref a :: As) (Value.ref a :: As).toArray U := fun U hU hW =>
    ⟨rfl, by rw [hU], by rw [hU]; exact hP, va_K.moved hW.alike hK, hD, by rw [hU]; exact zx_CX_move (Y := zx_Yt) hW.alike (fun a h1 h2 => hS.2.1 a h1 h2) hCX, zx_nw_warm zx_nw_kind hW hnw, fun C hC => va_AO.moved hW.alike (hao C hC)⟩
  have hbl : FrameBlind (zx_Pc D vwCl A ex zx_sts zx_Yt zx_nw zx_aos tys ws H.size (.ref a :: As)) := zx_blind zx_nw_kind
  have hrcv : ∃ cell : Cell, H[a]? = some cell ∧ cell.vm.isStatics = false ∧ s.vm.findClass y.cls = some cell.cls := by
    rcases j50 with ⟨j51, -⟩ | ⟨T, N, j5⟩
    · exact absurd j51 h9
    · exact va_recv hK hP j5 (by rw [← hc]; exact ho)
  exact zj_run_W (tys := tys) hS hl (va_runV (As := As) (rest := rest) hcall hM (cwV (q.2.2.1 - 1) hts (fun w hw => by
      rcases List.mem_append.mp hw with hw | hw
      · simp only [List.mem_cons, List.not_mem_nil, or_false] at hw
        rcases hw with rfl | rfl | rfl | rfl
        · exact hgo _ j1
        · exact hgo _ j2
        · exact hgo _ j3
        · exact hgo _ n4
      · exact hgT w hw) rfl rfl rfl ⟨rfl, n5, n6, j4⟩ hrooms) ⟨hbl, hrcv, hpre⟩ rfl hln hl.1 rfl (lv_room hcat) (htb _ hd).1 ⟨Nat.zero_le _, Nat.zero_le _⟩) K
theorem zj_callS (C : zj_cx p R s mi args meth c A ex nL own cc d md D tys) {ix : Nat} {q : Nat × Nat × Nat × Nat} {X : List Nat → List (ClassId × FieldType) → List Value → va_W → Prop} {Z : List Nat → List Value → va_W → Option Value → va_W → Prop} {As rest : List Value} (hd : (pc, Instr.invokestatic ix, 3) ∈ md.1) (hn : pc + 3 = n) (hq : md.2.2.1 ix = some q) (hk : q.1 = 1 ∨ q.1 = 3) (hW : zj_W l d q.2.1 X Z) (hrm : zx_rmt[q.2.1]? = some (0, 0)) (hln : As.length = q.2.2.1) (hcat : (rest.map fun v => v.category).sum ≤ 8) (hkc : As.reverse ++ rest = kc) (hX : X ex tys As ws) (K : ∀ (v : Option Value) (ws' : va_W), zx_as ws' = zx_as ws → Z ex As ws v ws' → zj_go p l e R s mi args below meth c Q D A nL n lv (v.toList ++ rest) ws') : zj_go p l e R s mi args below meth c Q D A nL pc lv kc ws := by
  subst hn
  subst hkc
  intro H locs ls hP hD hS hl
  obtain ⟨⟨hx, hb, hown, hts, hnw, hA, hR, hin, hnL, hCX, hao, hCK, hMK⟩, hLK, hroom, hml, htb, hK⟩ := C
  obtain ⟨L5, L0, -⟩ := hLK.2 ix q hq
  obtain ⟨y, yc, maxL, ret, n1, n2, n3, n4, n5, n6, L0⟩ := L0 (by omega)
  have hM := hW y yc maxL ret (0, 0) n1 hrm D A ex tys ws H.size As (fun x hx => hA x (Nat.le_trans hS.1 hx)) hX
  have hrooms : ({ frames := d, cells := 0, slots := 0, locals := 100 * d } : Room).frames + 1 ≤ R.frames ∧ 8 + (maxL + 11) + ({ frames := d, cells := 0, slots := 0, locals := 100 * d } : Room).locals ≤ R.locals := ⟨hroom.1, by show 8 + (maxL + 11) + 100 * d ≤ R.locals; omega⟩
  have hgT : GoodIn zx_Ts (Jvm.Cond.code y yc maxL ret :: zx_Ts) := by
    intro w hw
    have hw2 : w ∈ zx_Ts := (List.mem_cons.mp hw).elim (fun g => by rw [g]; exact n3) id
    exact ⟨hw2, good_of_word (List.all_eq_true.mp zx_Ts_good w hw2)⟩
  have hgo : ∀ w ∈ zx_Ts, w ∈ zx_Ts ∧ ((w.onTables && w.keeps) = true ∨ ∃ ty, w = .arrayClass ty) := fun w hw => ⟨hw, good_of_word (List.all_eq_true.mp zx_Ts_good w hw)⟩
  have hcall : CallFix p mi c cc nL s args zx_Ts own := ⟨hx, hb, hml, hown, hts⟩
  have hpre : ∀ U : State, U.heap = H → s.WarmedH U.vm → zx_Pc D vwCl A ex zx_sts zx_Yt zx_nw zx_aos tys ws H.size As As.toArray U := fun U hU hW =>
    ⟨rfl, by rw [hU], by rw [hU]; exact hP, va_K.moved hW.alike hK, hD, by rw [hU]; exact zx_CX_move (Y := zx_Yt) hW.alike (fun a h1 h2 => hS.2.1 a h1 h2) hCX, zx_nw_warm zx_nw_kind hW hnw, fun C hC => va_AO.moved hW.alike (hao C hC)⟩
  have hbl : FrameBlind (zx_Pc D vwCl A ex zx_sts zx_Yt zx_nw zx_aos tys ws H.size As) := zx_blind zx_nw_kind
  rcases hk with hk | hk
  · obtain ⟨j1, j2, j3⟩ := L0.2.1 hk
    exact zj_run_W (tys := tys) hS hl (va_runS (As := As) (rest := rest) hcall hM (va_cwS q.2.2.1 hts (fun w hw => by
      rcases List.mem_append.mp hw with hw | hw
      · simp only [List.mem_cons, List.not_mem_nil, or_false] at hw
        rcases hw with rfl | rfl | rfl
        · exact hgo _ j1
        · exact hgo _ j2
        · exact hgo _ n4
      · exact hgT w hw) rfl rfl rfl ⟨n5, n6, j3⟩ hrooms) ⟨hbl, hpre⟩ rfl hln hl.1 rfl (lv_room hcat) (htb _ hd).1 ⟨Nat.zero_le _, Nat.zero_le _⟩) K
  · obtain ⟨host, j1, j2, j3⟩ := L0.2.2.2.1 hk
    exact zj_run_W (tys := tys) hS hl (va_runSN (As := As) (rest := rest) hcall hM ⟨va_cnB (host := host) q.2.2.1 hts hgT rfl rfl rfl (hnw _ j1) (hts _ n4) ⟨n5, n6, j3⟩ hrooms, hts _ j2, trivial⟩ ⟨hbl, hpre⟩ rfl hln hl.1 rfl (lv_room hcat) (htb _ hd).1 ⟨Nat.zero_le _, Nat.zero_le _⟩) K
end ZKI
/-- a method is entered; it ends -/
theorem zj_enterW {l : Launch} {d j : Nat} {X : List Nat → List (ClassId × FieldType) → List Value → va_W → Prop} {Z : List Nat → List Value → va_W → Option Value → va_W → Prop} {md : zx_MD} (hP : zx_Pt[j]? = some (some md)) (hR0 : zx_mR md.2.1 = (0, 0)) (hcats : ∀ ex tys av ws, X ex tys av ws → (lg_sl av).length ≤ zx_mV md.2.1)
    (hcont : ∀ (p : Program) (e : Env) (R : Room) (s : State) (mi : MethodId) (args : Array Value) (below : List Frame) (meth : Method) (c : Code) (Q : State → Prop) (D : va_G) (A : Nat → Prop) (ex : List Nat) (nL : Nat) (own : String) (cc : ByteArray) (tys : List (ClassId × FieldType)) (ws : va_W) (av : List Value), X ex tys av ws → zj_cx p R s mi args meth c A ex nL own cc d md D tys → zx_mV md.2.1 = nL →
      (∀ (pc : Nat) (lv : List (Nat × Value)) (w : Int32) (ws' : va_W), (pc, Instr.ireturn, 1) ∈ md.1 → md.2.2.2 ≠ 4 → (md.2.2.2 = 0 ∨ md.2.2.2 = 1 ∧ (w = 0 ∨ w = 1)) → zx_as ws' = zx_as ws → Z ex av ws (some (.int w)) ws' → zj_go p l e R s mi args below meth c Q D A nL pc lv [.int w] ws') →
      (∀ (pc : Nat) (lv : List (Nat × Value)) (ws' : va_W), (pc, Instr.return_, 1) ∈ md.1 → md.2.2.2 = 4 → zx_as ws' = zx_as ws → Z ex av ws none ws' → zj_go p l e R s mi args below meth c Q D A nL pc lv [] ws') →
      (∀ (pc : Nat) (lv : List (Nat × Value)) (a : Nat) (ws' : va_W), (pc, Instr.areturn, 1) ∈ md.1 → md.2.2.2 = 3 → zx_as ws' = zx_as ws → Z ex av ws (some (.ref a)) ws' → zj_go p l e R s mi args below meth c Q D A nL pc lv [.ref a] ws') →
      zj_go p l e R s mi args below meth c Q D A nL 0 (lv_args 0 av) [] ws) : zj_W l (d + 1) j X Z := by
  intro y cc maxL ret rm hPR hrm D A ex tys ws sz av hA hX
  obtain ⟨k1, k2, k3, k4, k5, k6, k7, k8, k9, x, nx, k10, k11⟩ := zx_PKt j md y cc maxL ret rm hP hPR hrm
  have hrm0 : rm = (0, 0) := k2.symm.trans hR0
  subst hrm0
  refine Met.ofW (cc := cc) (maxL := maxL) (ret := ret) k1 rfl ?_
  intro p e s m args below meth c s₁ B hml hv
  obtain ⟨rfl, hsz, hP, hK, hD, hCX, hnw, hao⟩ := hv
  have hx := B.exec
  have hb := B.bytes
  have hr := B.returns
  have hts0 := atoms_spec (ws := Jvm.Cond.code y cc maxL ret :: zx_Ts) B.pre
  have hts : ∀ w ∈ zx_Ts, w.before av.toArray s = true := fun w hw => hts0 w (List.mem_cons_of_mem _ hw)
  have hown : s.vm.findClass y.cls = some m.cls := findClass_of_methodNamed B.named
  have hlocks := B.notSynchronized
  have hin : meth.name = y.name := (name_of_methodNamed B.named B.method).1
  have hA' : ∀ q, s.heap.size ≤ q → A q := fun q hq => hA q (by rw [← hsz]; exact hq)
  have F : zx_FX p s m av.toArray meth c ({ frames := d + 1, cells := 0, slots := 0, locals := 100 * (d + 1) } : Room) cc y.cls zx_Ts zx_nw vwCl A ex maxL zx_sts zx_Yt zx_aos zx_dt md.2.1 :=
    ⟨hx, hb, hown, hts, hnw, hA', ⟨by rw [k2], by rw [k2]⟩, fun q => by rw [hin]; exact k5 q, k3, hCX, hao, zx_CKt, k6⟩
  have hl := lv_entry av (n := maxL) (by rw [← k3]; exact hcats ex tys av ws hX)
  rw [lg_entry_eq]
  generalize (lg_sl av ++ List.replicate (maxL - (lg_sl av).length) Slot.unset).toArray = ls at hl ⊢
  have fin : ∀ (v : Option Value) (ws' : va_W) (H : Heap) (locs : List Loc), va_P D vwCl ws' H → va_D A ws' → va_S A s.heap H locs → zx_as ws' = zx_as ws → Z ex av ws v ws' → ∀ t : State, t.heap = H → s.WarmedH t.vm → zj_Q D A tys ws (Z ex av ws) av.toArray s (.returned v) t := by
    intro v ws' H locs h1 h2 h3 h4 h5 t ht hW
    exact ⟨⟨v, ws', rfl, va_K.moved hW.alike hK, by rw [ht]; exact h1, h2, h4, h5⟩, h3.F ht⟩
  refine hcont p e ({ frames := d + 1, cells := 0, slots := 0, locals := 100 * (d + 1) } : Room) s m av.toArray below meth c (MQ below (zj_Q D A tys ws (Z ex av ws)) av.toArray s 0 0 A) D A ex maxL y.cls cc tys ws av hX ⟨F, k7, ⟨Nat.le_refl _, Nat.le_refl _⟩, hml, k8, hK⟩ k3 ?_ ?_ ?_ s.heap [] ls hP hD va_S.rf hl
  · intro pc lv w ws' h1 h2 h3 h4 h5 H locs ls' g1 g2 g3 g4
    cases ret with
    | none =>
      have k9 : md.2.2.2 = 4 := k9
      exact absurd k9 h2
    | some ty =>
      have hn : narrow ty (.int w) = .int w := by
        have k9 : zx_tag ty = md.2.2.2 := k9.1
        rcases h3 with h3 | ⟨h3, h6⟩
        · rw [h3] at k9
          cases ty <;> first | rfl | (simp [zx_tag] at k9; done)
        · rw [h3] at k9
          rcases h6 with rfl | rfl <;> cases ty <;> first | rfl | (simp [zx_tag] at k9; done)
      exact W.zret hx hb hr hn (fin (some (.int w)) ws' H locs g1 g2 g3 h4 h5) g3.2.2 (k8 _ h1).1
  · intro pc lv ws' h1 h2 h4 h5 H locs ls' g1 g2 g3 g4
    have hrn : ret = none := by
      cases ret with
      | none => rfl
      | some ty => exact absurd h2 k9.2.1
    subst hrn
    exact W.vret hx hb hr (fin none ws' H locs g1 g2 g3 h4 h5) g3.2.2 (k8 _ h1).1
  · intro pc lv a ws' h1 h2 h4 h5 H locs ls' g1 g2 g3 g4
    cases ret with
    | none =>
      have k9 : md.2.2.2 = 4 := k9
      rw [k9] at h2; cases h2
    | some ty =>
      have hty : (∃ n, ty = .object n) ∨ ∃ t, ty = .array t := by
        have h9 : zx_tag ty = md.2.2.2 := k9.1
        rw [h2] at h9
        cases ty <;> first | exact Or.inl ⟨_, rfl⟩ | exact Or.inr ⟨_, rfl⟩ | cases h9
      exact W.aret hx hb hr hty (Or.inr ⟨a, rfl⟩) (fin (some (.ref a)) ws' H locs g1 g2 g3 h4 h5) g3.2.2 (k8 _ h1).1
end
