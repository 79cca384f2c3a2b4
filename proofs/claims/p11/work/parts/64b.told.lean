noncomputable section
/-- behind a throw: the cells as they were at one of the cuts -/
def zx_XC (D : va_G) (A : Nat → Prop) (b : Nat) (ex : List Nat) (ρ : List Int) (ws : va_W) (los : List zx_Os) : String → State → State → Prop := fun E st t =>
  E = "java/util/NoSuchElementException" ∧ (∃ q : Nat × zx_T, .inr q ∈ los ∧ ∃ (r2 : List Int) (tys' : List (ClassId × FieldType)) (ws' : va_W), zx_ok (ρ ++ r2) q.2.1 ∧ va_K D vwCl tys' t ∧ va_P D vwCl ws' t.heap ∧ va_D A ws' ∧ zx_KP (ws, vLK) ws' ∧ zx_F2 (fun c e => zx_RC vwCl b ex (ρ ++ r2) (zx_as ws') tys' c e.2) q.2.2.1 ws') ∧ va_F A st t
def zx_f0 : zx_Fn := fun _ _ _ _ => none
abbrev zt_Y : zx_Y := zw_YK zx_Yt vLK false
def zt_f : zx_Fn := zx_run zt_Y zx_dt zx_rmt (zv_hd [] 0 zx_Pt) zx_f0 3000 2
theorem zt_f_ok {l : Launch} : zx_FOK l vwCl zx_Ts zx_nw zx_sts zt_Y zx_aos zx_PRt zx_rmt 2 zt_f :=
  zv_run_ok (Y := zt_Y) 0 (zv_PK_hd zx_PKt) zx_CKt zx_arrs zx_Ts_good zx_nw_kind (vYI vLK) (fun _ _ _ => by
    intro y cc maxL ret rm _ _ G h as os hz
    cases hz) 2
def zx_tt1 : List (Nat × Instr × Nat) := [(0, .iload_n 1, 1), (1, .ifCond .lt 20, 3), (4, .iload_n 1, 1), (5, .aload_n 0, 1), (6, .getfield 235, 3), (9, .if_icmp .ge 12, 3), (12, .iload_n 2, 1), (13, .iconst 0, 1), (14, .iconst 2, 1), (15, .invokestatic 108, 3), (18, .ifCond .ne 13, 3), (31, .aload_n 0, 1), (32, .getfield 13, 3), (35, .iload_n 1, 1), (36, .iaload, 1), (37, .istore_n 3, 1), (38, .iload_n 2, 1), (39, .ifCond .ne 8, 3), (42, .iload_n 3, 1), (43, .bipush 15, 2), (45, .iand, 1), (46, .ireturn, 1), (47, .iload_n 2, 1), (48, .iconst 1, 1), (49, .if_icmp .ne 8, 3), (52, .iload_n 3, 1), (53, .bipush 8, 2), (55, .ishr, 1), (56, .ireturn, 1), (57, .iload_n 3, 1), (58, .iconst 4, 1), (59, .ishr, 1), (60, .bipush 15, 2), (62, .iand, 1), (63, .iconst 1, 1), (64, .isub, 1), (65, .ireturn, 1)]
set_option maxRecDepth 1000000 in
theorem zx_tt1_ok : zx_tbk prog_1_method_19_code zx_tt1 = true := by decide +kernel
def zx_mt1 : zx_MD := (zx_tt1, ((zx_fd zx_Fc0, zx_fd zx_Sc0, zx_fd zx_Cc0, zx_fd zx_Ic0, zx_has zx_Lc0, zx_fd [], 4, false, (1, 6), false), (zx_fd zx_Kc0, 0)))
def zx_tt2 : List (Nat × Instr × Nat) := [(0, .aload_n 3, 1), (1, .iconst 0, 1), (2, .aload_n 0, 1), (3, .iload_n 1, 1), (4, .iload_n 2, 1), (5, .invokevirtual 7, 3), (8, .i2l, 1), (9, .lastore, 1), (10, .goto 7, 3), (13, .astore 4, 2), (15, .iconst 1, 1), (16, .ireturn, 1), (17, .iconst 0, 1), (18, .ireturn, 1)]
set_option maxRecDepth 1000000 in
theorem zx_tt2_ok : zx_tbk method_3_code zx_tt2 = true := by decide +kernel
theorem zt_d2_0 : decode method_3_code 0 = .ok (.aload_n 3, 1) := (zx_TB_of (cc := method_3_code) (tbl := zx_tt2) zx_tt2_ok (0, .aload_n 3, 1) (List.mem_of_getElem? (i := 0) rfl)).1
theorem zt_d2_1 : decode method_3_code 1 = .ok (.iconst 0, 1) := (zx_TB_of (cc := method_3_code) (tbl := zx_tt2) zx_tt2_ok (1, .iconst 0, 1) (List.mem_of_getElem? (i := 1) rfl)).1
theorem zt_d2_2 : decode method_3_code 2 = .ok (.aload_n 0, 1) := (zx_TB_of (cc := method_3_code) (tbl := zx_tt2) zx_tt2_ok (2, .aload_n 0, 1) (List.mem_of_getElem? (i := 2) rfl)).1
theorem zt_d2_3 : decode method_3_code 3 = .ok (.iload_n 1, 1) := (zx_TB_of (cc := method_3_code) (tbl := zx_tt2) zx_tt2_ok (3, .iload_n 1, 1) (List.mem_of_getElem? (i := 3) rfl)).1
theorem zt_d2_4 : decode method_3_code 4 = .ok (.iload_n 2, 1) := (zx_TB_of (cc := method_3_code) (tbl := zx_tt2) zx_tt2_ok (4, .iload_n 2, 1) (List.mem_of_getElem? (i := 4) rfl)).1
theorem zt_d2_5 : decode method_3_code 5 = .ok (.invokevirtual 7, 3) := (zx_TB_of (cc := method_3_code) (tbl := zx_tt2) zx_tt2_ok (5, .invokevirtual 7, 3) (List.mem_of_getElem? (i := 5) rfl)).1
theorem zt_d2_8 : decode method_3_code 8 = .ok (.i2l, 1) := (zx_TB_of (cc := method_3_code) (tbl := zx_tt2) zx_tt2_ok (8, .i2l, 1) (List.mem_of_getElem? (i := 6) rfl)).1
theorem zt_d2_9 : decode method_3_code 9 = .ok (.lastore, 1) := (zx_TB_of (cc := method_3_code) (tbl := zx_tt2) zx_tt2_ok (9, .lastore, 1) (List.mem_of_getElem? (i := 7) rfl)).1
theorem zt_d2_10 : decode method_3_code 10 = .ok (.goto 7, 3) := (zx_TB_of (cc := method_3_code) (tbl := zx_tt2) zx_tt2_ok (10, .goto 7, 3) (List.mem_of_getElem? (i := 8) rfl)).1
theorem zt_d2_13 : decode method_3_code 13 = .ok (.astore 4, 2) := (zx_TB_of (cc := method_3_code) (tbl := zx_tt2) zx_tt2_ok (13, .astore 4, 2) (List.mem_of_getElem? (i := 9) rfl)).1
theorem zt_d2_15 : decode method_3_code 15 = .ok (.iconst 1, 1) := (zx_TB_of (cc := method_3_code) (tbl := zx_tt2) zx_tt2_ok (15, .iconst 1, 1) (List.mem_of_getElem? (i := 10) rfl)).1
theorem zt_d2_16 : decode method_3_code 16 = .ok (.ireturn, 1) := (zx_TB_of (cc := method_3_code) (tbl := zx_tt2) zx_tt2_ok (16, .ireturn, 1) (List.mem_of_getElem? (i := 11) rfl)).1
theorem zt_d2_17 : decode method_3_code 17 = .ok (.iconst 0, 1) := (zx_TB_of (cc := method_3_code) (tbl := zx_tt2) zx_tt2_ok (17, .iconst 0, 1) (List.mem_of_getElem? (i := 12) rfl)).1
theorem zt_d2_18 : decode method_3_code 18 = .ok (.ireturn, 1) := (zx_TB_of (cc := method_3_code) (tbl := zx_tt2) zx_tt2_ok (18, .ireturn, 1) (List.mem_of_getElem? (i := 13) rfl)).1
set_option maxRecDepth 1000000 in
theorem zt_d1 : decode prog_1_method_19_code 21 = .ok (.new 238, 3) ∧ decode prog_1_method_19_code 24 = .ok (.dup, 1) ∧ decode prog_1_method_19_code 25 = .ok (.ldc 240, 2) ∧ decode prog_1_method_19_code 27 = .ok (.invokespecial 242, 3) ∧ decode prog_1_method_19_code 30 = .ok (.athrow, 1) := by decide +kernel
set_option maxRecDepth 1000000 in
theorem zx_w1 : ∀ w ∈ ([.classLink "OperaHouse" 238 "java/util/NoSuchElementException", .initialized "java/util/NoSuchElementException", .classLink "OperaHouseLaw" 13 "java/util/NoSuchElementException", .methodLink "OperaHouseLaw" 7 zx_y1, .instanceMethod zx_y1, .selects "OperaHouse" zx_y1 zx_y1, .initialized "OperaHouse", .methodLink "OperaHouseLaw" 89 zx_y2, .static zx_y2, .initialized "OperaHouseLaw", .code zx_y1 prog_1_method_19_code 4 (some .int), .codeWith zx_y2 method_3_code 5 (some .int) [(0, 10, 13, 13)]] : List Jvm.Cond), w ∈ lw_tbl ∧ goodWord w = true := by decide +kernel
theorem zx_w1t : ∀ w ∈ ([.classLink "OperaHouse" 238 "java/util/NoSuchElementException", .initialized "java/util/NoSuchElementException", .classLink "OperaHouseLaw" 13 "java/util/NoSuchElementException", .methodLink "OperaHouseLaw" 7 zx_y1, .instanceMethod zx_y1, .selects "OperaHouse" zx_y1 zx_y1, .initialized "OperaHouse", .methodLink "OperaHouseLaw" 89 zx_y2, .static zx_y2, .initialized "OperaHouseLaw", .code zx_y1 prog_1_method_19_code 4 (some .int), .codeWith zx_y2 method_3_code 5 (some .int) [(0, 10, 13, 13)]] : List Jvm.Cond), w ∈ zx_Ts := fun w hw => List.mem_filter.mpr (zx_w1 w hw)
/-! zt: told's run -/
def zt_vx : zx_V := .inr (.inl ([64], false))
def zt_vk : zx_V := .inl ([(2, 1)], 0)
def zt_vw : zx_V := .inl ([(3, 1)], 0)
def zt_vo : zx_V := .inr (.inl ([351], false))
theorem zt_sk : vL_h917.2.2.2.1 = [zt_vo, zt_vw, zt_vk, zt_vx] := rfl
theorem zt_k0 : vL_h917.2.2.2.2 = (0, 0) := rfl
def zt_run : Option (List zx_Os) := zx_ex zt_Y zx_dt zx_rmt (fun pc => Nat.beq pc 21) zx_mt1 zt_f 100 zx_tt1 vL_h917.1 vL_h917.2.1 (zx_args 0 [zt_vx, zt_vk, zt_vw]) (0, 0) []
def zt_los : List zx_Os := zt_run.getD []
/-- the law behind told's call -/
def vL_t920 : zx_T := (vL_h917.1 ++ [((0, 1), none)], vL_h917.2.1, vL_h917.2.2.1, [.inl ([(vL_h917.1.length, 1)], 0)], (0, 0))
def zt_cut (G : zx_G) (h : List zx_C) (c : Int) : Bool := (fun (T : zx_T) => zw_T 8 vL_t920 T (zw_sg 8 vL_t920 T)) (G, h, vL_h917.2.2.1, [.inl ([], c)], (0, 0))
def zt_row (h : List zx_C) : Bool := match zy_get h 287 with
  | some (.inr (.inr n)) => Nat.blt 0 n
  | _ => false
def zt_int (v : Option zx_V) : Bool := match v with
  | some (.inl _) => true
  | _ => false
def zt_dr (G : zx_G) (h : List zx_C) : Bool := [(98, ((0 : Int), (0 : Int))), (99, (0, 0)), (100, (0, 0)), (6, (0, 0)), (21, (0, 0))].all (zg_dr G (vL_h917.2.1.drop 218) (h.drop 218))
def zt_ok (x : zx_Os) : Bool := match x with
  | .inl u => (zt_cut u.1 u.2.1 0 && zt_dr u.1 u.2.1) && (zt_row u.2.1 && zt_int u.2.2)
  | .inr q => (Nat.beq q.1 21 && (q.2.2.2.2.1.isEmpty && zx_le2 q.2.2.2.2.2 (0, 0))) && (zt_cut q.2.1 q.2.2.1 1 && zt_dr q.2.1 q.2.2.1)
set_option maxRecDepth 1000000 in
theorem zt_some : zt_run.isSome = true := by decide +kernel
set_option maxRecDepth 1000000 in
theorem zt_all : zt_los.all zt_ok = true := by decide +kernel
theorem zt_getD {α : Type} {x : Option (List α)} (h : x.isSome = true) : x = some (x.getD []) := by
  cases x with
  | none => cases h
  | some y => rfl
theorem zt_eq : zx_ex zt_Y zx_dt zx_rmt (fun pc => Nat.beq pc 21) zx_mt1 zt_f 100 zx_tt1 vL_h917.1 vL_h917.2.1 (zx_args 0 [zt_vx, zt_vk, zt_vw]) (0, 0) [] = some zt_los := zt_getD (x := zt_run) zt_some
def zt_lou : List zx_Os → List zx_Ou
  | [] => []
  | .inl u :: r => u :: zt_lou r
  | .inr _ :: r => zt_lou r
def zt_outs : List zx_Os → List zx_Ou
  | [] => []
  | .inl u :: r => (u.1, u.2.1, some (.inl ([], 0))) :: zt_outs r
  | .inr q :: r => (q.2.1, q.2.2.1, some (.inl ([], 1))) :: zt_outs r
theorem zt_lou_i {u : zx_Ou} : ∀ {l : List zx_Os}, .inl u ∈ l → u ∈ zt_lou l
  | .inl v :: r, h => by
    rw [zt_lou]
    rcases List.mem_cons.mp h with e | e
    · cases e; exact List.mem_cons_self
    · exact List.mem_cons_of_mem _ (zt_lou_i e)
  | .inr _ :: r, h => by
    rw [zt_lou]
    rcases List.mem_cons.mp h with e | e
    · cases e
    · exact zt_lou_i e
theorem zt_lou_e {u : zx_Ou} : ∀ {l : List zx_Os}, u ∈ zt_lou l → .inl u ∈ l
  | [], h => nomatch h
  | .inl v :: r, h => by
    rw [zt_lou] at h
    rcases List.mem_cons.mp h with e | e
    · subst e; exact List.mem_cons_self
    · exact List.mem_cons_of_mem _ (zt_lou_e e)
  | .inr _ :: r, h => by
    rw [zt_lou] at h
    exact List.mem_cons_of_mem _ (zt_lou_e h)
theorem zt_outs_l {u : zx_Ou} : ∀ {l : List zx_Os}, .inl u ∈ l → (u.1, u.2.1, some (.inl ([], 0))) ∈ zt_outs l
  | .inl v :: r, h => by
    rw [zt_outs]
    rcases List.mem_cons.mp h with e | e
    · cases e; exact List.mem_cons_self
    · exact List.mem_cons_of_mem _ (zt_outs_l e)
  | .inr _ :: r, h => by
    rw [zt_outs]
    rcases List.mem_cons.mp h with e | e
    · cases e
    · exact List.mem_cons_of_mem _ (zt_outs_l e)
theorem zt_outs_r {q : Nat × zx_T} : ∀ {l : List zx_Os}, .inr q ∈ l → (q.2.1, q.2.2.1, some (.inl ([], 1))) ∈ zt_outs l
  | .inr v :: r, h => by
    rw [zt_outs]
    rcases List.mem_cons.mp h with e | e
    · cases e; exact List.mem_cons_self
    · exact List.mem_cons_of_mem _ (zt_outs_r e)
  | .inl _ :: r, h => by
    rw [zt_outs]
    rcases List.mem_cons.mp h with e | e
    · cases e
    · exact List.mem_cons_of_mem _ (zt_outs_r e)
theorem zt_outs_e {u : zx_Ou} : ∀ {l : List zx_Os}, u ∈ zt_outs l → ∃ x ∈ l, (∃ v, x = .inl v ∧ u = (v.1, v.2.1, some (.inl ([], 0)))) ∨ ∃ q, x = .inr q ∧ u = (q.2.1, q.2.2.1, some (.inl ([], 1)))
  | [], h => nomatch h
  | .inl v :: r, h => by
    rw [zt_outs] at h
    rcases List.mem_cons.mp h with e | e
    · exact ⟨_, List.mem_cons_self, Or.inl ⟨v, rfl, e⟩⟩
    · obtain ⟨x, h1, h2⟩ := zt_outs_e e
      exact ⟨x, List.mem_cons_of_mem _ h1, h2⟩
  | .inr v :: r, h => by
    rw [zt_outs] at h
    rcases List.mem_cons.mp h with e | e
    · exact ⟨_, List.mem_cons_self, Or.inr ⟨v, rfl, e⟩⟩
    · obtain ⟨x, h1, h2⟩ := zt_outs_e e
      exact ⟨x, List.mem_cons_of_mem _ h1, h2⟩
section ZTO
variable {l : Launch} {D : va_G} {A : Nat → Prop} {b : Nat} {ex : List Nat} {ρ : List Int} {tys : List (ClassId × FieldType)} {ws : va_W} {sz : Nat} {av : List Value}
theorem zt1_ok (hl : l.stackTraces = false) (hG : zx_ok ρ vL_h917.1) (hh : zx_F2 (fun c q => zx_RC vwCl b ex ρ (zx_as ws) tys c q.2) vL_h917.2.1 ws) (ha : zx_F2 (zx_R b ex ρ (zx_as ws)) [zt_vx, zt_vk, zt_vw] av) (hA : ∀ q, sz ≤ q → A q) :
    vx_Met l zx_y1 (Jvm.Cond.code zx_y1 prog_1_method_19_code 4 (some .int) :: zx_Ts) ({ frames := 8, cells := 1, slots := 6, locals := 500 }) (zx_Px D A ex tys ws sz av) (zx_Qc D vwCl A b ex ρ ws vLK (zt_lou zt_los)) (zx_XC D A b ex ρ ws zt_los) 1 6 A := by
  refine vx_ofW (cc := prog_1_method_19_code) (maxL := 4) (ret := some .int) (by decide) rfl ?_
  intro p e s m args below meth c s₁ B hml hexc hv
  obtain ⟨rfl, ⟨hsz, hP, hK, hD, hCX, hnw, hao⟩, hnx, ⟨sa, hstr⟩, hU, hN⟩ := hv
  have hx := B.exec
  have hb := B.bytes
  have hr := B.returns
  have hts0 := atoms_spec (ws := Jvm.Cond.code zx_y1 prog_1_method_19_code 4 (some .int) :: zx_Ts) B.pre
  have hts : ∀ w ∈ zx_Ts, w.before av.toArray s = true := fun w hw => hts0 w (List.mem_cons_of_mem _ hw)
  have hown : s.vm.findClass zx_oc0 = some m.cls := findClass_of_methodNamed B.named
  have hlocks := B.notSynchronized
  have hA' : ∀ q, s.heap.size ≤ q → A q := fun q hq => hA q (by rw [← hsz]; exact hq)
  have F : zx_FX p s m av.toArray meth c ({ frames := 8, cells := 1, slots := 6, locals := 500 } : Room) prog_1_method_19_code zx_oc0 zx_Ts zx_nw vwCl A ex 4 zx_sts zt_Y zx_aos zx_dt zx_mt1.2.1 :=
    ⟨hx, hb, hown, hts, hnw, hA', ⟨rfl, rfl⟩, (fun q => nomatch (show false = true from q)), rfl, hCX, hao, zx_CKt, zx_MK_of (pT := zx_pTc0) zx_kFc0 zx_kLc0 (by decide +kernel)⟩
  have hlv := lv_entry av (n := 4) (by rw [zx_words ha]; exact Nat.le_of_ble_eq_true rfl)
  rw [lg_entry_eq]
  generalize (lg_sl av ++ List.replicate (4 - (lg_sl av).length) Slot.unset).toArray = ls at hlv ⊢
  have J : zx_J D vwCl A b ex (ws, vLK) 4 s ρ vL_h917.1 vL_h917.2.1 (zx_args 0 [zt_vx, zt_vk, zt_vw]) [] s.heap [] ls [] :=
    ⟨hG, tys, ws, lv_args 0 av, hK, hP, hD, ⟨va_S.rf, zx_KP_rf ws vLK⟩, hh, zx_args_ok 0 ha, hlv, trivial⟩
  refine zx_ex_ok (Y := zt_Y) (xs := fun _ => 0) (md := zx_mt1) (f := zt_f) (d := 2) ⟨rfl, fun _ _ => trivial⟩ F zx_arrs zt_f_ok (zx_LK_of zx_codes zx_kKc0) zx_Ts_good zx_nw_kind ⟨by decide, by decide⟩ hml (zx_TB_of zx_tt1_ok) 100 (0, .iload_n 1, 1) _ ρ vL_h917.1 vL_h917.2.1 (zx_args 0 [zt_vx, zt_vk, zt_vw]) (0, 0) [] zt_los s.heap [] ls [] (fun q => nomatch (show false = true from q)) (fun _ hy => hy) J zt_eq ⟨fun o ho r2 H' locs' ls' kc' pc' k' ir tys' ws' g1 g2 g3 g4 g5 g6 g7 g8 g9 g10 g11 => ?_, fun q hq r2 H' locs' ls' kc' J' => ?_⟩
  · refine vx_ret ?_
    refine W.widen (k := 1) (n := 6) g8 g9 ?_
    have fin : ∀ v : Option Value, zx_rv b ex (ρ ++ r2) (zx_as ws') o.2.2 v → ∀ t : State, t.heap = H' → s.WarmedH t.vm → zx_Qc D vwCl A b ex ρ ws vLK (zt_lou zt_los) av.toArray s (.returned v) t := fun v hv t ht hW =>
      ⟨⟨o, zt_lou_i ho, v, r2, tys', ws', rfl, g1, va_K.moved hW.alike g2, by rw [ht]; exact g3, g4, g6, g7, hv⟩, g5.F ht⟩
    rcases g11 with ⟨rfl, e1, rfl, e2⟩ | ⟨rfl, e1, w, e2, rfl, e3, e4⟩ | ⟨rfl, q, x1, e2, rfl, e3, e4⟩ | ⟨rfl, w, e2, rfl, e4⟩
    · exact absurd e2 (by decide)
    · have hx1 : zx_R b ex (ρ ++ r2) (zx_as ws') (.inl e1) (.int w) := ⟨w, rfl, e3⟩
      have hn := (zx_fit_ok (ty := .int) g1 e4 hx1).1
      exact W.zret hx hb hr hn (fin (some (.int w)) (by rw [e2]; exact hx1)) g5.2.2 g10
    · exact absurd e4 (by decide)
    · exact absurd e4 (by decide)
  · have hall := List.all_eq_true.mp zt_all _ hq
    have hall : ((Nat.beq q.1 21 && (q.2.2.2.2.1.isEmpty && zx_le2 q.2.2.2.2.2 (0, 0))) && (zt_cut q.2.1 q.2.2.1 1 && zt_dr q.2.1 q.2.2.1)) = true := hall
    rw [Bool.and_eq_true] at hall
    obtain ⟨hall, -⟩ := hall
    rw [Bool.and_eq_true, Bool.and_eq_true] at hall
    obtain ⟨h2, h3, h4⟩ := hall
    have h2 := Nat.eq_of_beq_eq_true h2
    have h3 := List.isEmpty_iff.mp h3
    unfold zx_le2 at h4
    rw [Bool.and_eq_true] at h4
    have hk1 : q.2.2.2.2.2.1 = 0 := Nat.le_zero.mp (Nat.le_of_ble_eq_true h4.1)
    have hk2 : q.2.2.2.2.2.2 = 0 := Nat.le_zero.mp (Nat.le_of_ble_eq_true h4.2)
    obtain ⟨hG', tys', ws', lc', b1, b2, b3, ⟨b4, b40⟩, b5, b6, b7, b8⟩ := J'
    rw [h3] at b8
    cases kc' with
    | cons _ _ => exact b8.elim
    | nil =>
      rw [hk1, hk2, h2]
      have hnx' : ∀ w ∈ zx_at0, w.before av.toArray s = true := vx_hat (fun w hw => hts w (zx_at_g w hw)) zx_at_x (fun w hw => va_Nw.use (zx_nx_on w hw) (hnx w hw))
      obtain ⟨d0, d3, d4, d6, d9⟩ := zt_d1
      exact zx_throw (own := "OperaHouse") (cls := "java/util/NoSuchElementException") (Z := "java/lang/RuntimeException") (text := "nothing such was wrong") (names := ["java/lang/Exception"]) (A := A) (sa := sa) hx hb hl hown (by decide) (by decide) (by decide)
        (hts _ (zx_w1t _ (by simp))) (hts _ (zx_w1t _ (by simp))) hstr hnx' zx_at_o hU hN b4 (by rw [b7.1, hml]) d0 d3 d4 d6 d9 (fun x hx => (hexc x hx).elim) (by decide) (by decide) (by decide) (by decide) hlocks
        (fun t hta hs hk => ⟨rfl, ⟨q, hq, r2, tys', ws', hG', va_K.moved hta b1, b2.kept (fun k z hz' => hk z.1 ((b2 k z hz').lt)), b3, b40, b5⟩, Nat.le_trans b4.1 hs, fun z k1 k2 => by rw [hk z (Nat.lt_of_lt_of_le k1 b4.1)]; exact b4.2.1 z k1 k2⟩)
        b4.2.2 (by decide) (by decide)
end ZTO
theorem zx_ofWH {l : Launch} {y : MethodName} {ws ws' : List Jvm.Cond} {rm : Room} {Pc : Array Value → State → Prop} {Qc : Array Value → State → Outcome → State → Prop} {mc ms : Nat} {free : Addr → Prop} {cc : ByteArray} {maxL : Nat} {ret : Option FieldType} {hh : List (Nat × Nat × Nat × Nat)}
    (hy : plainName y.cls = true) (hw : ws = Jvm.Cond.codeWith y cc maxL ret hh :: ws')
    (body : ∀ p e s m args below meth c s₁, BodyLoose p l y (headSpec ws rm) cc maxL ret e s m args below meth c s₁ → c.maxLocals = maxL → Pc args s →
      W p l e (headSpec ws rm).room s m args below meth c s.heap [] 0 0 (MQ below Qc args s mc ms free) (entryFrame m args maxL)) : Met l y ws rm Pc Qc mc ms free := by
  refine MetFree.of_bodyS (code := cc) (maxLocals := maxL) (ret := ret) hy ?_ ?_
  · intro args s m h hn
    obtain ⟨m9, meth, c, hn9, h1, h2, h3, h4, -, h5, h6, -⟩ := Cond.codeWith_spec (atoms_spec (ws := ws) h _ (by rw [hw]; exact List.mem_cons_self))
    cases hn.symm.trans hn9
    exact ⟨meth, c, h1, h2, h3, h4, h5, h6⟩
  · intro p e s m args below meth c s₁ B hml hP _
    have hh0 : s₁.heap = s.heap := by rw [B.state]; rfl
    obtain ⟨t, a1, o, b1, b2, b3⟩ := body p e s m args below meth c s₁ B hml hP s₁ hh0 (Stand.of_body B)
    exact ⟨t, o, a1, b1, b2, b3⟩
theorem zt_n287 : ∀ i ∈ vLK, i ≠ 287 := by decide
section ZTV
variable {l : Launch} {D : va_G} {A : Nat → Prop} {b : Nat} {ex : List Nat} {ρ : List Int} {tys : List (ClassId × FieldType)} {ws : va_W} {sz : Nat} {av : List Value}
theorem zt2_ok (hl : l.stackTraces = false) (hG : zx_ok ρ vL_h917.1) (hh : zx_F2 (fun c q => zx_RC vwCl b ex ρ (zx_as ws) tys c q.2) vL_h917.2.1 ws) (ha : zx_F2 (zx_R b ex ρ (zx_as ws)) [zt_vx, zt_vk, zt_vw, zt_vo] av) (hA : ∀ q, sz ≤ q → A q) :
    Met l zx_y2 (Jvm.Cond.codeWith zx_y2 method_3_code 5 (some .int) [(0, 10, 13, 13)] :: zx_Ts) ({ frames := 12, cells := 1, slots := 6, locals := 1000 }) (zx_Px D A ex tys ws sz av) (zg_Q D A b ex ρ ws vLK (zt_outs zt_los) (fun _ _ => True)) 1 6 A := by
  match av, ha with
  | [], ha => exact ha.elim
  | [_], ha => exact ha.2.elim
  | [_, _], ha => exact ha.2.2.elim
  | [_, _, _], ha => exact ha.2.2.2.elim
  | _ :: _ :: _ :: _ :: _ :: _, ha => exact ha.2.2.2.2.elim
  | [x0, x1, x2, x3], ⟨h0, h1, h2, h3, _⟩ =>
  have ha3 : zx_F2 (zx_R b ex ρ (zx_as ws)) [zt_vx, zt_vk, zt_vw] [x0, x1, x2] := ⟨h0, h1, h2, trivial⟩
  rcases h0 with ⟨h4, -⟩ | ⟨i0, a, h4, h5, rfl⟩
  · cases h4
  have hi0 : i0 = 64 := List.mem_singleton.mp h4
  subst hi0
  obtain ⟨k, rfl, -⟩ := h1
  obtain ⟨w, rfl, -⟩ := h2
  rcases h3 with ⟨h6, -⟩ | ⟨i3, ao, h6, h7, rfl⟩
  · cases h6
  have hi3 : i3 = 351 := List.mem_singleton.mp h6
  subst hi3
  have h5 : (zx_as ws)[0]? = some a := h5
  have h7 : (zx_as ws)[287]? = some ao := h7
  refine zx_ofWH (cc := method_3_code) (maxL := 5) (ret := some .int) (by decide) rfl ?_
  intro p e s m args below meth c s₁ B hml hv
  obtain ⟨rfl, ⟨hsz, hP, hK, hD, hCX, hnw, hao⟩, hXE⟩ := hv
  have hx := B.exec
  have hb := B.bytes
  have hret := B.returns
  have hts0 := atoms_spec (ws := Jvm.Cond.codeWith zx_y2 method_3_code 5 (some .int) [(0, 10, 13, 13)] :: zx_Ts) B.pre
  have hts : ∀ wd ∈ zx_Ts, wd.before ([.ref a, .int k, .int w, .ref ao] : List Value).toArray s = true := fun wd hw => hts0 wd (List.mem_cons_of_mem _ hw)
  have htab := vx_table (x := zx_y2) B (hts0 _ List.mem_cons_self)
  have hown : s.vm.findClass zx_oc14 = some m.cls := findClass_of_methodNamed B.named
  have hlocks := B.notSynchronized
  have hA' : ∀ q, s.heap.size ≤ q → A q := fun q hq => hA q (by rw [← hsz]; exact hq)
  have hlv := lv_entry ([.ref a, .int k, .int w, .ref ao] : List Value) (n := 5) (Nat.le_of_ble_eq_true rfl)
  rw [lg_entry_eq]
  generalize (lg_sl ([.ref a, .int k, .int w, .ref ao] : List Value) ++ List.replicate (5 - (lg_sl ([.ref a, .int k, .int w, .ref ao] : List Value)).length) Slot.unset).toArray = ls at hlv ⊢
  have hlv : lv_has ls 5 [(0, .ref a), (1, .int k), (2, .int w), (3, .ref ao)] := hlv
  refine lv_aload_n hx hb zt_d2_0 rfl (lv_at hlv 3 rfl) ?_
  refine lv_iconst (v := 0) hx hb zt_d2_1 (by decide) ?_
  refine lv_aload_n hx hb zt_d2_2 rfl (lv_at hlv 0 rfl) ?_
  refine lv_iload_n hx hb zt_d2_3 rfl (lv_at hlv 1 rfl) ?_
  refine lv_iload_n hx hb zt_d2_4 rfl (lv_at hlv 2 rfl) ?_
  have hM := zt1_ok (l := l) (D := D) (A := A) (b := b) (ex := ex) (ρ := ρ) (tys := tys) (ws := ws) (sz := s.heap.size) (av := [.ref a, .int k, .int w]) hl hG hh ha3 hA'
  have hcall : CallFix p m c method_3_code 5 s ([.ref a, .int k, .int w, .ref ao] : List Value).toArray zx_Ts zx_oc14 := ⟨hx, hb, hml, hown, hts⟩
  have hgo : ∀ w ∈ zx_Ts, w ∈ zx_Ts ∧ ((w.onTables && w.keeps) = true ∨ ∃ ty, w = .arrayClass ty) := fun w hw => ⟨hw, good_of_word (List.all_eq_true.mp zx_Ts_good w hw)⟩
  have hgT : GoodIn zx_Ts (Jvm.Cond.code zx_y1 prog_1_method_19_code 4 (some .int) :: zx_Ts) := by
    intro w hw
    exact hgo w ((List.mem_cons.mp hw).elim (fun g => by rw [g]; exact zx_w1t _ (by simp)) id)
  have hpre : ∀ U : State, U.heap = s.heap → s.WarmedH U.vm → zx_Px D A ex tys ws s.heap.size [.ref a, .int k, .int w] [Value.ref a, .int k, .int w].toArray U := fun U hU hW =>
    ⟨rfl, ⟨by rw [hU], by rw [hU]; exact hP, va_K.moved hW.alike hK, hD, by rw [hU]; exact zx_CX_move (Y := zx_Yt) hW.alike (fun a h1 h2 => rfl) hCX, zx_nw_warm zx_nw_kind hW hnw, fun C hC => va_AO.moved hW.alike (hao C hC)⟩, zx_XE_move hW (fun a h1 h2 => by rw [hU]) hXE⟩
  obtain ⟨q0, hq0, fs0, hq1, -⟩ := zx_F2_get (i := 0) hh (show vL_h917.2.1[0]? = some vcL0 from rfl)
  obtain ⟨qa, qe⟩ := q0
  have hq1 : qe = .inr (10, fs0) := hq1
  subst hq1
  have hqa : qa = a := by
    rw [zx_as, List.getElem?_map, hq0] at h5
    exact Option.some.inj h5
  subst hqa
  have hcl10 : vwCl[10]? = some (RX11, TX11, 14) := rfl
  have hrun : vx_Run p l e ({ frames := 12, cells := 1, slots := 6, locals := 1000 } : Room) s m ([.ref qa, .int k, .int w, .ref ao] : List Value).toArray below meth c s.heap [] 0 0 1 6 (F0 m 5 ls [.int w, .int k, .ref qa, .int 0, .ref ao]) [.int 0, .ref ao] (zx_Qc D vwCl A b ex ρ ws vLK (zt_lou zt_los) [.ref qa, .int k, .int w].toArray) (zx_XC D A b ex ρ ws zt_los) A :=
    vx_runV (As := [.int k, .int w]) (b := qa) (rest := [.int 0, .ref ao]) (C := "OperaHouse") (own := zx_oc14) (index := 7) (n := 2) hcall hM (cwV 2 hts (fun w hw => by
      rcases List.mem_append.mp hw with hw | hw
      · simp only [List.mem_cons, List.not_mem_nil, or_false] at hw
        rcases hw with rfl | rfl | rfl | rfl
        · exact hgo _ (zx_w1t _ (by simp [zx_oc14]))
        · exact hgo _ (zx_w1t _ (by simp))
        · exact hgo _ (zx_w1t _ (by simp))
        · exact hgo _ (zx_w1t _ (by simp [zx_y1]))
      · exact hgT w hw) rfl rfl rfl ⟨rfl, by decide, by decide, by decide⟩ ⟨by decide, by decide⟩) ⟨zx_Px_blind, va_recv hK hP hcl10 hq0, hpre⟩ rfl rfl hlv.1 rfl (lv_room (Nat.le_of_ble_eq_true rfl)) zt_d2_5 ⟨by decide, by decide⟩
  intro T hT X
  rcases hrun T hT X with ⟨v, st₀, t, T', L, e0, X', hL, e1, e2, hq, st⟩ | ⟨q9, st₀, t, T', L, E, ce, e0, X', hL, e1, e2, ⟨rfl, ⟨q3, hq3', r3, tys3, ws3, c1, c2, c3, c4, c5, c6⟩, hF⟩, hce, hcv, hcl, st⟩
  · obtain ⟨⟨u, hu, v', r3, tys3, ws3, hv', c1, c2, c3, c4, c5, c6, c7⟩, hF⟩ := hq
    cases hv'
    have hui := zt_lou_e hu
    have hall := List.all_eq_true.mp zt_all _ hui
    have hall : ((zt_cut u.1 u.2.1 0 && zt_dr u.1 u.2.1) && (zt_row u.2.1 && zt_int u.2.2)) = true := hall
    rw [Bool.and_eq_true] at hall
    obtain ⟨-, hall⟩ := hall
    rw [Bool.and_eq_true] at hall
    obtain ⟨k1, k2⟩ := hall
    have hz : ∃ z : Int32, v = some (.int z) := by
      revert c7 k2
      unfold zt_int
      rcases u.2.2 with _ | (e9 | r9) <;> intro c7 k2
      · cases k2
      · rcases v with _ | x
        · exact c7.elim
        · obtain ⟨z, hz, -⟩ := (c7 : ∃ w : Int32, x = .int w ∧ _)
          exact ⟨z, by rw [hz]⟩
      · cases k2
    obtain ⟨z, rfl⟩ := hz
    unfold zt_row at k1
    split at k1
    case h_2 => cases k1
    rename_i n hn
    rw [zy_get_eq] at hn
    have hn0 := Nat.blt_eq.mp k1
    obtain ⟨q7, hq7, cA, t0, fl, ht, he⟩ := zx_F2_get c6 hn
    obtain ⟨ka, ke⟩ := q7
    have he : ke = .inl (cA, n, .inr (.inl fl)) := he
    subst he
    obtain ⟨⟨xt, c50⟩, c51⟩ := c5
    have c50 : zx_as ws3 = zx_as ws ++ xt := c50
    have hka : ka = ao := by
      have h9 : (zx_as ws3)[287]? = some ao := by
        rw [c50, List.getElem?_append_left (List.getElem?_eq_some_iff.mp h7).1]
        exact h7
      rw [zx_as, List.getElem?_map, hq7] at h9
      exact Option.some.inj h9
    subst hka
    have hS3 : va_S A s.heap T'.heap ([] ++ L) := ⟨by rw [e1, ← e0]; exact hF.1, fun q h1 h2 => by rw [e1, hF.2 q (by rw [e0]; exact h1) h2, e0], fun q hq => hL q hq⟩
    have hvm : t.vm.Alike s.vm := by rw [← e2]; exact X'.warmed.alike.symm
    have kk : W p l e ({ frames := 12, cells := 1, slots := 6, locals := 1000 } : Room) s m ([.ref qa, .int k, .int w, .ref ka] : List Value).toArray below meth c T'.heap ([] ++ L) (0 + 1) (0 + 6) (MQ below (zg_Q D A b ex ρ ws vLK (zt_outs zt_los) (fun _ _ => True)) ([.ref qa, .int k, .int w, .ref ka] : List Value).toArray s 1 6 A) (F0 m 8 ls [.int z, .int 0, .ref ka]) := by
      refine lv_i2l hx hb zt_d2_8 rfl ?_
      refine va_last hx hb (va_K.moved hvm c2) (by rw [e1]; exact c3) c4 hS3 287 t0 hq7 ht (i := 0) (vp_in_iff.mpr ⟨by decide, by show (0 : Int) < (n : Int); omega⟩) zt_d2_9 (fun H1 locs1 P1 D1 S1 => ?_)
      refine lv_goto (tgt := 17) hx hb zt_d2_10 (by decide) ?_
      refine lv_iconst (v := 0) hx hb zt_d2_17 (by decide) ?_
      refine W.iret hx hb hret (fun t9 ht9 hW9 => ⟨⟨_, zt_outs_l hui, some (.int 0), r3, tys3, _, rfl, c1, va_K.moved hW9.alike (va_K.moved hvm c2), by rw [ht9]; exact P1, D1, ⟨⟨xt, ?_⟩, ?_⟩, ?_, ⟨0, rfl, rfl⟩, trivial⟩, S1.F ht9⟩) S1.2.2 zt_d2_18
      · rw [zx_as_set hq7]
        exact c50
      · intro i hi q hq
        rw [List.getElem?_set_ne (fun h9 => zt_n287 i hi h9.symm)]
        exact c51 i hi q hq
      · rw [zx_as_set hq7]
        have h9 := zx_F2_set (R := fun (c : zx_C) (q : Nat × va_E) => zx_RC vwCl b ex (ρ ++ r3) (zx_as ws3) tys3 c q.2) (a := .inr (.inr n)) (b := (ka, .inl (cA, n, .inr (.inl (vp_updL fl (0 : Int32).toNatClampNeg z.toInt64))))) ⟨cA, t0, _, ht, rfl⟩ 287 c6
        rw [zx_set_same hn] at h9
        exact h9
    obtain ⟨t2, a1, a2⟩ := kk T' rfl X'
    exact ⟨t2, st t2 a1, a2⟩
  · have hS3 : va_S A s.heap T'.heap ([] ++ L) := ⟨by rw [e1, ← e0]; exact hF.1, fun q h1 h2 => by rw [e1, hF.2 q (by rw [e0]; exact h1) h2, e0], fun q hq => hL q hq⟩
    have hvm : t.vm.Alike s.vm := by rw [← e2]; exact X'.warmed.alike.symm
    have kk : W p l e ({ frames := 12, cells := 1, slots := 6, locals := 1000 } : Room) s m ([.ref qa, .int k, .int w, .ref ao] : List Value).toArray below meth c T'.heap ([] ++ L) (0 + 1) (0 + 6) (MQ below (zg_Q D A b ex ρ ws vLK (zt_outs zt_los) (fun _ _ => True)) ([.ref qa, .int k, .int w, .ref ao] : List Value).toArray s 1 6 A) (F0 m 13 ls [.ref q9]) := by
      refine lv_astore (nL := 5) hx hb zt_d2_13 hlv (by decide) rfl (fun ls'' hl'' => ?_)
      refine lv_iconst (v := 1) hx hb zt_d2_15 (by decide) ?_
      exact W.iret hx hb hret (fun t9 ht9 hW9 => ⟨⟨_, zt_outs_r hq3', some (.int 1), r3, tys3, ws3, rfl, c1, va_K.moved hW9.alike (va_K.moved hvm c2), by rw [ht9, e1]; exact c3, c4, c5, c6, ⟨1, rfl, rfl⟩, trivial⟩, hS3.F ht9⟩) hS3.2.2 zt_d2_16
    have kx := vx_catch (own := zx_oc14) (name := "java/util/NoSuchElementException") (E := "java/util/NoSuchElementException") (ce := ce) (q := q9) (pc := 5) (rest := [.int 0, .ref ao]) hown [] ⟨0, 10, 13, 13⟩ [] htab (fun _ hz' => nomatch hz') (by decide) (by decide) (hts _ (zx_w1t _ (by simp [zx_oc14]))) (va_Nw.use (w := .castable "java/util/NoSuchElementException" "java/util/NoSuchElementException") rfl (hXE.1 _ (by simp [zx_nx]))) (by rw [e1]; exact hce) hcv hcl kk
    obtain ⟨t2, a1, a2⟩ := kx T' rfl X'
    exact ⟨t2, st.trans a1, a2⟩
end ZTV
end
