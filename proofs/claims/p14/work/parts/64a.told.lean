noncomputable section
/-! zt: told, which throws or answers -/
def zx_y1 : MethodName := ⟨"OperaHouse", "told", "(II)I"⟩
def zx_y2 : MethodName := ⟨"OperaHouseLaw", "told", "(LOperaHouse;II[J)I"⟩
def zx_at0 : List Jvm.Cond := (zx_thr "OperaHouse" 242 "java/util/NoSuchElementException" "java/lang/RuntimeException" ["java/lang/Exception"]).filter vx_no
def zx_nx : List Jvm.Cond := [.declares (Bundle.initS "java/lang/RuntimeException"), .declares (Bundle.initS "java/lang/Exception"), .declares (Bundle.initS Bundle.tN), .castable "java/util/NoSuchElementException" "java/util/NoSuchElementException"]
set_option maxRecDepth 1000000 in
theorem zx_at_x : ∀ w ∈ zx_at0.filter (fun w => !goodWord w), w ∈ zx_nx := by decide +kernel
set_option maxRecDepth 1000000 in
theorem zx_at_l : ∀ w ∈ zx_at0.filter goodWord, w ∈ lw_tbl := by decide +kernel
theorem zx_at_g : ∀ w ∈ zx_at0.filter goodWord, w ∈ zx_Ts := fun w hw => List.mem_filter.mpr ⟨zx_at_l w hw, (List.mem_filter.mp hw).2⟩
set_option maxRecDepth 1000000 in
theorem zx_nx_l : ∀ w ∈ zx_nx, w ∈ lw_tbl := by decide +kernel
set_option maxRecDepth 1000000 in
theorem zx_at_o : ∀ w ∈ Jvm.Cond.classLink "OperaHouse" 238 "java/util/NoSuchElementException" :: Jvm.Cond.initialized "java/util/NoSuchElementException" :: zx_at0, vx_ot w = true := by decide +kernel
theorem zx_nx_warm {s U : State} (hW : s.WarmedH U.vm) (h : ∀ w ∈ zx_nx, va_Nw w s) : ∀ w ∈ zx_nx, va_Nw w U := by
  intro w hw
  have h2 := h w hw
  simp only [zx_nx, List.mem_cons, List.not_mem_nil, or_false] at hw
  rcases hw with rfl | rfl | rfl | rfl
  · exact va_Nw.warmD hW h2
  · exact va_Nw.warmD hW h2
  · exact va_Nw.warmD hW h2
  · exact va_Nw.warmC hW h2
theorem zx_nx_on : ∀ w ∈ zx_nx, w.onTables = true := by
  intro w hw
  simp only [zx_nx, List.mem_cons, List.not_mem_nil, or_false] at hw
  rcases hw with rfl | rfl | rfl | rfl <;> rfl
/-- what a throw wants of a state -/
def zx_XE (A : Nat → Prop) (U : State) : Prop := (∀ w ∈ zx_nx, va_Nw w U) ∧ (∃ sa, vk_R "OperaHouse" 240 "nothing such was wrong" sa U) ∧ vx_Zq Bundle.tN "UNASSIGNED_STACK" Bundle.steD A U U.heap ∧ vx_Zq Bundle.tN "SUPPRESSED_SENTINEL" Bundle.listD A U U.heap
theorem zx_XE_move {A : Nat → Prop} {s U : State} (hW : s.WarmedH U.vm) (hk : ∀ a : Nat, a < s.heap.size → ¬ A a → U.heap[a]? = s.heap[a]?) (h : zx_XE A s) : zx_XE A U := by
  obtain ⟨h1, ⟨sa, h2⟩, h3, h4⟩ := h
  exact ⟨zx_nx_warm hW h1, ⟨sa, vk_R.warm hW h2⟩, vx_Zq.moved hW.alike (h3.kept hk), vx_Zq.moved hW.alike (h4.kept hk)⟩
def zx_Px (D : va_G) (A : Nat → Prop) (ex : List Nat) (tys : List (ClassId × FieldType)) (ws : va_W) (sz : Nat) (av : List Value) : Array Value → State → Prop :=
  va_Pc av (fun U => (U.heap.size = sz ∧ va_P D vwCl ws U.heap ∧ va_K D vwCl tys U ∧ va_D A ws ∧ zx_EV ex A zx_sts zx_Yt zx_nw zx_aos U) ∧ zx_XE A U)
theorem zx_Px_blind {D : va_G} {A : Nat → Prop} {ex : List Nat} {tys : List (ClassId × FieldType)} {ws : va_W} {sz : Nat} {av : List Value} : FrameBlind (zx_Px D A ex tys ws sz av) := by
  intro a U g mk h
  obtain ⟨h0, h1, h2, ⟨sa, h3⟩, h4, h5⟩ := h
  have hb := (zx_blind (D := D) (cl := vwCl) (A := A) (ex := ex) (sts := zx_sts) (Y := zx_Yt) (nw := zx_nw) (aos := zx_aos) (tys := tys) (ws := ws) (sz := sz) (av := av) zx_nw_kind) a U g mk ⟨h0, h1⟩
  have hvm : U.vm.Alike (U.calling g mk a).vm := Vm.Alike.refl U.vm
  exact ⟨hb.1, hb.2, fun w hw => va_Nw.same (zx_nx_on w hw) (rfl : U.vm = (U.calling g mk a).vm) (h2 w hw), ⟨sa, vk_R.same (rfl : (U.calling g mk a).vm = U.vm) h3⟩, vx_Zq.moved (U := U.calling g mk a) hvm h4, vx_Zq.moved (U := U.calling g mk a) hvm h5⟩
end
