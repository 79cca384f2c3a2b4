/-! zx: told, which throws: the method, the law's own that catches, the law's call -/
def zx_y1 : MethodName := ⟨"OperaHouse", "told", "(II)I"⟩
def zx_y2 : MethodName := ⟨"OperaHouseLaw", "told", "(LOperaHouse;II[J)I"⟩
def zx_at0 : List Jvm.Cond := (zx_thr "OperaHouse" 242 "java/util/NoSuchElementException" "java/lang/RuntimeException" ["java/lang/Exception"]).filter vx_no
def zx_nx : List Jvm.Cond := [.declares (Bundle.initS "java/lang/RuntimeException"), .declares (Bundle.initS "java/lang/Exception"), .declares (Bundle.initS Bundle.tN), .castable "java/util/NoSuchElementException" "java/util/NoSuchElementException"]
set_option maxRecDepth 1000000 in
theorem zx_at_x : ∀ w ∈ zx_at0.filter (fun w => !goodWord w), w ∈ zx_nx := by decide +kernel
set_option maxRecDepth 1000000 in
theorem zx_at_l : ∀ w ∈ zx_at0.filter goodWord, w ∈ lw_tbl := by decide +kernel
theorem zx_at_g : ∀ w ∈ zx_at0.filter goodWord, w ∈ zx_Ts := fun w hw => List.mem_filter.mpr ⟨zx_at_l w hw, (List.mem_filter.mp hw).2⟩
set_option maxRecDepth 1000000 in
theorem zx_nx_l : ∀ w ∈ zx_nx, w ∈ lw_tbl := by decide +kernel
set_option maxRecDepth 1000000 in
theorem zx_at_o : ∀ w ∈ Jvm.Cond.classLink "OperaHouse" 238 "java/util/NoSuchElementException" :: Jvm.Cond.initialized "java/util/NoSuchElementException" :: zx_at0, vx_ot w = true := by decide +kernel
theorem zx_nx_warm {s U : State} (hW : s.WarmedH U.vm) (h : ∀ w ∈ zx_nx, va_Nw w s) : ∀ w ∈ zx_nx, va_Nw w U := by
  intro w hw
  have h2 := h w hw
  simp only [zx_nx, List.mem_cons, List.not_mem_nil, or_false] at hw
  rcases hw with rfl | rfl | rfl | rfl
  · exact va_Nw.warmD hW h2
  · exact va_Nw.warmD hW h2
  · exact va_Nw.warmD hW h2
  · exact va_Nw.warmC hW h2
theorem zx_nx_on : ∀ w ∈ zx_nx, w.onTables = true := by
  intro w hw
  simp only [zx_nx, List.mem_cons, List.not_mem_nil, or_false] at hw
  rcases hw with rfl | rfl | rfl | rfl <;> rfl
/-- what a throw wants of a state -/
def zx_XE (A : Nat → Prop) (U : State) : Prop := (∀ w ∈ zx_nx, va_Nw w U) ∧ (∃ sa, vk_R "OperaHouse" 240 "nothing such was wrong" sa U) ∧ vx_Zq Bundle.tN "UNASSIGNED_STACK" Bundle.steD A U U.heap ∧ vx_Zq Bundle.tN "SUPPRESSED_SENTINEL" Bundle.listD A U U.heap
theorem zx_XE_move {A : Nat → Prop} {s U : State} (hW : s.WarmedH U.vm) (hk : ∀ a : Nat, a < s.heap.size → ¬ A a → U.heap[a]? = s.heap[a]?) (h : zx_XE A s) : zx_XE A U := by
  obtain ⟨h1, ⟨sa, h2⟩, h3, h4⟩ := h
  exact ⟨zx_nx_warm hW h1, ⟨sa, vk_R.warm hW h2⟩, vx_Zq.moved hW.alike (h3.kept hk), vx_Zq.moved hW.alike (h4.kept hk)⟩
def zx_Px (D : va_G) (A : Nat → Prop) (ex : List Nat) (tys : List (ClassId × FieldType)) (ws : va_W) (sz : Nat) (av : List Value) : Array Value → State → Prop :=
  va_Pc av (fun U => (U.heap.size = sz ∧ va_P D vwCl ws U.heap ∧ va_K D vwCl tys U ∧ va_D A ws ∧ zx_EV ex A zx_sts zx_Yt zx_nw zx_aos U) ∧ zx_XE A U)
theorem zx_Px_blind {D : va_G} {A : Nat → Prop} {ex : List Nat} {tys : List (ClassId × FieldType)} {ws : va_W} {sz : Nat} {av : List Value} : FrameBlind (zx_Px D A ex tys ws sz av) := by
  intro a U g mk h
  obtain ⟨h0, h1, h2, ⟨sa, h3⟩, h4, h5⟩ := h
  have hb := (zx_blind (D := D) (cl := vwCl) (A := A) (ex := ex) (sts := zx_sts) (Y := zx_Yt) (nw := zx_nw) (aos := zx_aos) (tys := tys) (ws := ws) (sz := sz) (av := av) zx_nw_kind) a U g mk ⟨h0, h1⟩
  have hvm : U.vm.Alike (U.calling g mk a).vm := Vm.Alike.refl U.vm
  exact ⟨hb.1, hb.2, fun w hw => va_Nw.same (zx_nx_on w hw) (rfl : U.vm = (U.calling g mk a).vm) (h2 w hw), ⟨sa, vk_R.same (rfl : (U.calling g mk a).vm = U.vm) h3⟩, vx_Zq.moved (U := U.calling g mk a) hvm h4, vx_Zq.moved (U := U.calling g mk a) hvm h5⟩
/-- behind a throw: the cells as they were at one of the cuts -/
def zx_XC (D : va_G) (A : Nat → Prop) (b : Nat) (ex : List Nat) (ρ : List Int) (ws : va_W) (los : List zx_Os) : String → State → State → Prop := fun E st t =>
  E = "java/util/NoSuchElementException" ∧ (∃ q : Nat × zx_T, .inr q ∈ los ∧ ∃ (r2 : List Int) (tys' : List (ClassId × FieldType)) (ws' : va_W), zx_ok (ρ ++ r2) q.2.1 ∧ va_K D vwCl tys' t ∧ va_P D vwCl ws' t.heap ∧ va_D A ws' ∧ (∃ xt, zx_as ws' = zx_as ws ++ xt) ∧ zx_F2 (fun c e => zx_RC vwCl b ex (ρ ++ r2) (zx_as ws') tys' c e.2) q.2.2.1 ws') ∧ va_F A st t
def zx_f0 : zx_Fn := fun _ _ _ _ => none
theorem zx_f0_ok {l : Launch} {d : Nat} : zx_FOK l vwCl zx_Ts zx_nw zx_sts zx_Yt zx_aos zx_PRt zx_rmt d zx_f0 := by
  intro j y cc maxL ret rm _ _ G h as os hz
  cases hz
theorem zx_LK0 {own : String} : zx_LK own vwCl zx_Ts zx_nw zx_PRt (zx_fd []) := by
  intro ix q hq
  cases hq
def zx_tt1 : List (Nat × Instr × Nat) := [(0, .iload_n 1, 1), (1, .ifCond .lt 20, 3), (4, .iload_n 1, 1), (5, .aload_n 0, 1), (6, .getfield 235, 3), (9, .if_icmp .ge 12, 3)]
def zx_mt1 : zx_MD := (zx_tt1, ((zx_fd zx_Fc0, zx_fd zx_Sc0, zx_fd zx_Cc0, zx_fd zx_Ic0, zx_has zx_Lc0, zx_fd [], 4, false, (1, 6), false), (zx_fd [], 0)))
set_option maxRecDepth 1000000 in
theorem zx_bt1 : zx_tbk prog_1_method_19_code zx_tt1 = true := by decide +kernel
def zx_tt2 : List (Nat × Instr × Nat) := [(0, .aload_n 3, 1), (1, .iconst 0, 1), (2, .aload_n 0, 1), (3, .iload_n 1, 1), (4, .iload_n 2, 1), (15, .iconst 1, 1), (16, .ireturn, 1)]
def zx_mt2 : zx_MD := (zx_tt2, ((zx_fd zx_Fc13, zx_fd zx_Sc13, zx_fd zx_Cc13, zx_fd zx_Ic13, zx_has zx_Lc13, zx_fd [], 5, false, (1, 6), false), (zx_fd [], 0)))
set_option maxRecDepth 1000000 in
theorem zx_bt2 : zx_tbk method_3_code zx_tt2 = true := by decide +kernel
set_option maxRecDepth 1000000 in
theorem zx_d1 : decode prog_1_method_19_code 21 = .ok (.new 238, 3) ∧ decode prog_1_method_19_code 24 = .ok (.dup, 1) ∧ decode prog_1_method_19_code 25 = .ok (.ldc 240, 2) ∧ decode prog_1_method_19_code 27 = .ok (.invokespecial 242, 3) ∧ decode prog_1_method_19_code 30 = .ok (.athrow, 1) := by decide +kernel
set_option maxRecDepth 1000000 in
theorem zx_d2 : decode method_3_code 5 = .ok (.invokevirtual 7, 3) ∧ decode method_3_code 13 = .ok (.astore 4, 2) := by decide +kernel
set_option maxRecDepth 1000000 in
theorem zx_w1 : ∀ w ∈ ([.classLink "OperaHouse" 238 "java/util/NoSuchElementException", .initialized "java/util/NoSuchElementException", .classLink "OperaHouseLaw" 13 "java/util/NoSuchElementException", .methodLink "OperaHouseLaw" 7 zx_y1, .instanceMethod zx_y1, .selects "OperaHouse" zx_y1 zx_y1, .initialized "OperaHouse", .methodLink "OperaHouseLaw" 89 zx_y2, .static zx_y2, .initialized "OperaHouseLaw", .code zx_y1 prog_1_method_19_code 4 (some .int), .codeWith zx_y2 method_3_code 5 (some .int) [(0, 10, 13, 13)]] : List Jvm.Cond), w ∈ lw_tbl ∧ goodWord w = true := by decide +kernel
theorem zx_w1t : ∀ w ∈ ([.classLink "OperaHouse" 238 "java/util/NoSuchElementException", .initialized "java/util/NoSuchElementException", .classLink "OperaHouseLaw" 13 "java/util/NoSuchElementException", .methodLink "OperaHouseLaw" 7 zx_y1, .instanceMethod zx_y1, .selects "OperaHouse" zx_y1 zx_y1, .initialized "OperaHouse", .methodLink "OperaHouseLaw" 89 zx_y2, .static zx_y2, .initialized "OperaHouseLaw", .code zx_y1 prog_1_method_19_code 4 (some .int), .codeWith zx_y2 method_3_code 5 (some .int) [(0, 10, 13, 13)]] : List Jvm.Cond), w ∈ zx_Ts := fun w hw => List.mem_filter.mpr (zx_w1 w hw)
