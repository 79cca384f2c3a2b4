noncomputable section
/-! zs: a later state as a new start; the law's loop over states -/
def zLF (below : List Frame) (A : Nat → Prop) (s : State) (c n : Nat) (t : State) : Prop := ∃ locs : List Loc, (∀ q ∈ locs, A q.base) ∧ t.status = .running ∧ Ended t below (.returned (some (.int 1))) ∧ Framed s (.returned (some (.int 1))) t locs c n
def zS (e : Env) (mi : MethodId) (args : Array Value) (below : List Frame) (Q : State → Prop) (A : Nat → Prop) (ex : List Nat) (b L : Nat) (xs : Nat → Int32) (s : State) (Rm : Room) : Prop :=
  (s.vm.findClass zx_oc14 = some mi.cls ∧ (∀ w ∈ zx_Ts, w.before args s = true) ∧ (∀ w ∈ zx_nw, va_Nw w s) ∧ (∀ q, s.heap.size ≤ q → A q) ∧ zx_CX ex A s s.heap zx_sts zx_Yt ∧ ∀ C ∈ zx_aos, va_AO C s) ∧ zx_XE A s ∧ (va_X b L xs s s.heap ∧ b < s.heap.size ∧ ¬ A b) ∧ s.hasRoom e.platform Rm = true ∧ ∀ t, zLF below A s Rm.cells Rm.slots t → Q t
def zR0 : Room := { frames := 2048, cells := 0, slots := 0, locals := 84000 }
section ZSA
variable {p : Program} {l : Launch} {e : Env} {s : State} {mi : MethodId} {args : Array Value} {below : List Frame} {meth : Method} {c : Code} {Q : State → Prop} {D : va_G} {A : Nat → Prop} {b : Nat} {ex : List Nat} {ad0 : zx_A0} {nL L : Nat} {xs : Nat → Int32} {Rm : Room}
theorem zS_re {T : State} {locs : List Loc} {k1 k2 : Nat} (h : zS e mi args below Q A ex b L xs s Rm) (X : Stand p l e Rm s mi args below meth c T locs k1 k2) (hS : va_S A s.heap T.heap locs) {Rn : Room} (hf : Rn.frames ≤ Rm.frames) (hl : Rn.locals ≤ Rm.locals) (hc : k1 + Rn.cells ≤ Rm.cells) (hs : k2 + Rn.slots ≤ Rm.slots) : zS e mi args below Q A ex b L xs ((T.setVm s.vm).setFrames (.invoking mi args :: below)) Rn := by
  have Y := vx_rebase X hf hl hc hs
  have hvm : ((T.setVm s.vm).setFrames (.invoking mi args :: below)).vm = s.vm := rfl
  have hhp : ((T.setVm s.vm).setFrames (.invoking mi args :: below)).heap = T.heap := rfl
  have hW : s.WarmedH ((T.setVm s.vm).setFrames (.invoking mi args :: below)).vm := by rw [hvm]; exact State.WarmedH.refl s
  obtain ⟨⟨h1, h2, h3, h4, h5, h6⟩, h7, ⟨h8, h9, h10⟩, -, h11⟩ := h
  refine ⟨⟨by rw [hvm]; exact h1, fun w hw => word_at hW (good_of_word (List.all_eq_true.mp zx_Ts_good w hw)) (h2 w hw), zx_nw_warm zx_nw_kind hW h3, fun q hq => h4 q (Nat.le_trans hS.1 (by rw [← hhp]; exact hq)), by rw [hhp]; exact zx_CX_move (Y := zx_Yt) hW.alike (fun a k1 k2 => hS.2.1 a k1 k2) h5, fun C hC => va_AO.moved hW.alike (h6 C hC)⟩, zx_XE_move hW (fun a k1 k2 => by rw [hhp]; exact hS.2.1 a k1 k2) h7, ⟨by rw [hhp]; exact (h8.kept (hS.2.1 b h9 h10)).moved hW.alike, by rw [hhp]; exact Nat.lt_of_lt_of_le h9 hS.1, h10⟩, Y.room, fun t ht => ?_⟩
  obtain ⟨locs', g1, g2, g3, ⟨v, gv⟩, g4, e1, e2⟩ := ht
  rw [hvm, State.setFrames_setFrames] at e1
  have k2' : (T.setVm s.vm).sameButNew ({ t with vm := s.vm } : State) locs' Rn.cells Rn.slots := ⟨e1, e2⟩
  have k3 := X.same.trans k2'
  exact h11 t ⟨locs ++ locs', fun q hq => by
    rcases List.mem_append.mp hq with q1 | q1
    · exact hS.2.2 q q1
    · exact g1 q q1, g2, g3, ⟨v, gv⟩, State.WarmedH.trans hW g4, k3.mono hc hs⟩
/-- the same with more room -/
theorem zs_up {R0 : Room} (hroom : s.hasRoom e.platform Rm = true) {pc : Nat} {T : zx_T} {ρ : List Int} {ws : va_W} (h : zg_go p l e Rm s mi args below meth c Q D A b ex ad0 nL pc T ρ ws) : zg_go p l e R0 s mi args below meth c Q D A b ex ad0 nL pc T ρ ws := by
  intro H locs ls kc tys lc hG B T hT X
  exact h H locs ls kc tys lc hG B T hT { X with room := hroom }
theorem zs_go (h : zS e mi args below Q A ex b L xs s Rm) (hRf : Rm.frames = 2048) (hRl : Rm.locals = 84000) {pc : Nat} {T : zx_T} {ρ : List Int} {ws : va_W} (hc : T.2.2.2.2.1 ≤ Rm.cells) (hs : T.2.2.2.2.2 ≤ Rm.slots)
    (K : ∀ s' : State, zS e mi args below Q A ex b L xs s' ({ frames := 2048, cells := Rm.cells - T.2.2.2.2.1, slots := Rm.slots - T.2.2.2.2.2, locals := 84000 } : Room) → zg_go p l e zR0 s' mi args below meth c Q D A b ex (ws, []) nL pc (T.1, T.2.1, T.2.2.1, T.2.2.2.1, (0, 0)) ρ ws) : zg_go p l e Rm s mi args below meth c Q D A b ex ad0 nL pc T ρ ws := by
  intro H locs ls kc tys lc hG B T' hT X
  obtain ⟨b1, b2, b3, ⟨b4, -⟩, b5, b6, b7, b8⟩ := B
  have hS : va_S A s.heap T'.heap locs := by rw [hT]; exact b4
  have h' := zS_re h X hS (Rn := ({ frames := 2048, cells := Rm.cells - T.2.2.2.2.1, slots := Rm.slots - T.2.2.2.2.2, locals := 84000 } : Room)) (by rw [hRf]; exact Nat.le_refl _) (by rw [hRl]; exact Nat.le_refl _) (by show _ + (Rm.cells - _) ≤ _; omega) (by show _ + (Rm.slots - _) ≤ _; omega)
  have Y := vx_rebase X (R' := zR0) (by rw [hRf]; exact Nat.le_refl _) (by rw [hRl]; exact Nat.le_refl _) (by show _ + 0 ≤ _; omega) (by show _ + 0 ≤ _; omega)
  have hvm : s.vm.Alike ((T'.setVm s.vm).setFrames (.invoking mi args :: below)).vm := Vm.Alike.refl s.vm
  exact K _ h' T'.heap [] ls kc tys lc hG ⟨va_K.moved hvm b1, by rw [hT]; exact b2, b3, ⟨va_S.rf, zx_KP_rf ws []⟩, b5, b6, b7, b8⟩ T' rfl Y
/-- the law's own end -/
theorem zs_ret {R : Room} (hx : p.tables.exec = Jvm.exec) (hb : c.code = code) (hr : meth.sig.returnType = ret) (hlocks : meth.locks = false) {pc : Nat} {H : Heap} {ls : Array Slot} {locs : List Loc} {k1 k2 : Nat} (hdg : decode code pc = .ok (.ireturn, 1)) (hA : ∀ q ∈ locs, A q.base) : W p l e R s mi args below meth c H locs k1 k2 (zLF below A s k1 k2) (F0 mi pc ls [.int 1]) := by
  intro T hT X
  obtain ⟨fs, hret, hrun, hended, hW, hframe⟩ := X.leave (v := some (.int 1)) (hlocks := hlocks) (fun h => by rw [hr] at h; cases h)
  have hmeth' : T.vm.method? mi = some meth := X.method'
  refine ⟨T.setFrames fs, ?_, locs, hA, hrun, hended, ⟨_, rfl⟩, hW, hframe⟩
  jvm_step X.here [X.here.top, hx, hb, hdg, hmeth', hr, ret, narrow_b1]
  (try refine ⟨rfl, ?_⟩); (try refine ⟨rfl, ?_⟩)
  first | (intro acts; rw [hret _ acts rfl rfl rfl]) | rw [hret _ _ rfl rfl rfl]
  exact Steps.refl _
theorem zLF_mono {k1 k2 n1 n2 : Nat} {t : State} (h1 : k1 ≤ n1) (h2 : k2 ≤ n2) (h : zLF below A s k1 k2 t) : zLF below A s n1 n2 t := by
  obtain ⟨locs, g1, g2, g3, g4, g5, g6⟩ := h
  exact ⟨locs, g1, g2, g3, g4, g5, g6.mono h1 h2⟩
theorem zs_KE (hx : p.tables.exec = Jvm.exec) (hb : c.code = code) (hr : meth.sig.returnType = ret) (hlocks : meth.locks = false) (h : zS e mi args below Q A ex b L xs s Rm) (u : zx_Ou) (ρ : List Int) (ws' : va_W) (hu : zgL_is1 u = true) : zg_ed p l e zR0 s mi args below meth c Q D A b ex ad0 nL code zx_mlw.2.2.2 (zx_mR zx_mlw.2.1) u ρ ws' := by
  intro H' locs' ls' kc' pc' k' ir tys g1 g2 g3 g4 g5 g6 g7 g8 g9 g10 g11
  unfold zgL_is1 at hu
  split at hu
  · rename_i e1 he1
    simp only [Bool.and_eq_true, decide_eq_true_iff] at hu
    rcases g11 with ⟨-, e2, -⟩ | ⟨rfl, e2, w, e3, rfl, e4, -⟩ | ⟨-, q, x1, e2, -⟩ | ⟨-, w, e2, -⟩
    · rw [he1] at e2; cases e2
    · rw [he1] at e3
      cases e3
      have hw : w = 1 := Int32.toInt_inj.mp (by rw [zx_isc_ev hu.1 e4, hu.2]; rfl)
      subst hw
      intro T hT X
      obtain ⟨t, st, ht⟩ := zs_ret (A := A) hx hb hr hlocks g10 g5.2.2 T hT X
      have k1 : k'.1 = 0 := Nat.le_zero.mp g8
      have k2 : k'.2 = 0 := Nat.le_zero.mp g9
      exact ⟨t, st, h.2.2.2.2 t (zLF_mono (by omega) (by omega) ht)⟩
    · rw [he1] at e2; cases e2
    · rw [he1] at e2; cases e2
  · cases hu
theorem zs_SX (hLN : L ≤ 3072) (h : zS e mi args below Q A ex b L xs s Rm) {M : zx_M} (i0 : Nat) (r : List Int) : zx_SX b xs A s M (zgL_re L xs i0 ++ r) := by
  intro _
  refine ⟨L, i0, h.2.2.1.1, h.2.2.1.2.1, h.2.2.1.2.2, by omega, rfl, rfl, fun j hj => ?_⟩
  match j, hj with
  | 0, _ => rfl
  | 1, _ => rfl
  | 2, _ => rfl
  | 3, _ => rfl
  | 4, _ => rfl
  | 5, _ => rfl
  | n + 6, hj => omega
theorem zs_C (hx : p.tables.exec = Jvm.exec) (hb : c.code = code) (hml : c.maxLocals = 7) (h : zS e mi args below Q A ex b L xs s Rm) : zgL_cx p zR0 s mi args meth c A ex 7 zx_oc14 code vLK 386 zx_mlw :=
  ⟨⟨hx, hb, h.1.1, h.1.2.1, h.1.2.2.1, h.1.2.2.2.1, ⟨rfl, rfl⟩, (fun q => nomatch (show false = true from q)), rfl, h.1.2.2.2.2.1, h.1.2.2.2.2.2, zx_CKt, zx_MK_of (pT := zx_pTc14) zx_kFc14 zx_kLc14 (by decide +kernel)⟩, zx_LK_of zx_codes zx_kKc14, ⟨Nat.le_of_ble_eq_true rfl, Nat.le_of_ble_eq_true rfl⟩, hml, zx_TB_of zx_bylaw⟩
end ZSA
set_option maxRecDepth 1000000 in
theorem vL_k920 : zgL_rk 218 vL_t920.2.1 vLK vLf zx_mlw 8 [vL_n23] 920 vL_t920 = true := by decide +kernel
set_option maxRecDepth 1000000 in
theorem vL_b917 : zg_xb vL_h917.1 (zx_sub ([(7, 1)], 0) ([(0, 1)], 0)) (-3072) (-6) = true := by decide +kernel
set_option maxRecDepth 1000000 in
theorem zt_d917 : decode code 917 = .ok (.invokestatic 89, 3) := by decide +kernel
theorem zt_b6 : ∀ q ∈ [(98, ((0 : Int), (0 : Int))), (99, (0, 0)), (100, (0, 0)), (6, (0, 0)), (21, (0, 0))], q ∈ [(98, ((0 : Int), (0 : Int))), (99, (0, 0)), (100, (0, 0)), (6, (0, 0)), (21, (0, 0))] := fun _ h => h
section ZSB
variable {p : Program} {l : Launch} {e : Env} {mi : MethodId} {b : Nat} {below : List Frame} {meth : Method} {c : Code} {Q : State → Prop} {D : va_G} {A : Nat → Prop} {ex : List Nat} {L : Nat} {xs : Nat → Int32}
/-- told's call, and the throw's cell behind it -/
theorem zs_told (hx : p.tables.exec = Jvm.exec) (hb : c.code = code) (hml : c.maxLocals = 7) (hl : l.stackTraces = false) {s : State} {Rm : Room} (h : zS e mi #[.ref b] below Q A ex b L xs s Rm) (hRf : Rm.frames = 2048) (hRl : Rm.locals = 84000) (hc : 1 ≤ Rm.cells) (hs : 6 ≤ Rm.slots) {ad0 : zx_A0} (had : ad0.2 = []) {i0 : Nat} {r : List Int} {ws : va_W} (hI : zgL_Inv11 ws)
    (K : ∀ (s' : State) (r' : List Int) (ws' : va_W), zS e mi #[.ref b] below Q A ex b L xs s' ({ frames := 2048, cells := Rm.cells - 1, slots := Rm.slots - 6, locals := 84000 } : Room) → zgL_Inv11 ws' → zg_go p l e zR0 s' mi #[.ref b] below meth c Q D A b ex (ws', []) 7 920 vL_t920 (zgL_re L xs i0 ++ r') ws') : zg_go p l e Rm s mi #[.ref b] below meth c Q D A b ex ad0 7 917 vL_h917 (zgL_re L xs i0 ++ r) ws := by
  intro H locs ls kc tys lc hG B
  have B0 := B
  have hh := B.2.2.2.2.1
  have hsk := B.2.2.2.2.2.2.2
  rw [zt_sk] at hsk
  rw [zt_k0]
  match kc, hsk with
  | [], hsk => exact hsk.elim
  | [_], hsk => exact hsk.2.elim
  | [_, _], hsk => exact hsk.2.2.elim
  | [_, _, _], hsk => exact hsk.2.2.2.elim
  | _ :: _ :: _ :: _ :: _ :: _, hsk => exact hsk.2.2.2.2.elim
  | [vo, vw, vk, vx], ⟨ho', hw', hk', hx', _⟩ =>
  obtain ⟨b1, b2, b3, ⟨b4, b40⟩, b5, b6, b7, b8⟩ := B
  obtain ⟨⟨h1, h2, h3, h4, h5, h6⟩, h7, ⟨h8, h9, h10⟩, h11, h12⟩ := id h
  have hM := zt2_ok (l := l) (D := D) (A := A) (b := b) (ex := ex) (tys := tys) (ws := ws) (sz := H.size) (av := [vx, vk, vw, vo]) hl hG hh ⟨hx', hk', hw', ho', trivial⟩ (fun z hz => h4 z (Nat.le_trans b4.1 hz))
  have hcall : CallFix p mi c code 7 s #[.ref b] zx_Ts zx_oc14 := ⟨hx, hb, hml, h1, h2⟩
  have hgo : ∀ w ∈ zx_Ts, w ∈ zx_Ts ∧ ((w.onTables && w.keeps) = true ∨ ∃ ty, w = .arrayClass ty) := fun w hw => ⟨hw, good_of_word (List.all_eq_true.mp zx_Ts_good w hw)⟩
  have hpre : ∀ U : State, U.heap = H → s.WarmedH U.vm → zx_Px D A ex tys ws H.size [vx, vk, vw, vo] [vx, vk, vw, vo].toArray U := fun U hU hW =>
    ⟨rfl, ⟨by rw [hU], by rw [hU]; exact b2, va_K.moved hW.alike b1, b3, by rw [hU]; exact zx_CX_move (Y := zx_Yt) hW.alike (fun a h1 h2 => b4.2.1 a h1 h2) h5, zx_nw_warm zx_nw_kind hW h3, fun C hC => va_AO.moved hW.alike (h6 C hC)⟩, zx_XE_move hW (fun a h1 h2 => by rw [hU]; exact b4.2.1 a h1 h2) h7⟩
  have Bz : zx_B D vwCl A b ex ad0 7 s (zgL_re L xs i0 ++ r) vL_h917.2.1 vL_h917.2.2.1 [] H locs ls [] tys ws lc := ⟨b1, b2, b3, ⟨b4, b40⟩, b5, b6, b7, trivial⟩
  refine zg_run_W (k := (0, 0)) (rm := (1, 6)) (KK := vLK) (Z := fun _ _ => True) (fun i hi => by rw [had] at hi; cases hi) h4 Bz (vx_runSW (As := [vx, vk, vw, vo]) (rest := []) (own := zx_oc14) (index := 89) (n := 4) hcall hM (vx_cwSW 4 h2 (fun w hw => by
    rcases List.mem_append.mp hw with hw | hw
    · simp only [List.mem_cons, List.not_mem_nil, or_false] at hw
      rcases hw with rfl | rfl | rfl
      · exact hgo _ (zx_w1t _ (by simp [zx_oc14]))
      · exact hgo _ (zx_w1t _ (by simp))
      · exact hgo _ (zx_w1t _ (by simp [zx_y2]))
    · exact hgo w ((List.mem_cons.mp hw).elim (fun g => by rw [g]; exact zx_w1t _ (by simp)) id)) rfl rfl rfl ⟨by decide, by decide, by decide⟩ ⟨by rw [hRf]; exact Nat.le_of_ble_eq_true rfl, by rw [hRl]; exact Nat.le_of_ble_eq_true rfl⟩) ⟨zx_Px_blind, hpre⟩ rfl rfl b7.1 rfl (lv_room (Nat.le_of_ble_eq_true rfl)) zt_d917 ⟨by show 0 + 1 ≤ Rm.cells; omega, by show 0 + 6 ≤ Rm.slots; omega⟩) (fun o ho v r2 ws' kp hv _ => ?_)
  obtain ⟨x, hxm, hxo⟩ := zt_outs_e ho
  have hall := List.all_eq_true.mp zt_all _ hxm
  have hcut : ∃ T : zx_T, zw_T 8 vL_t920 T (zw_sg 8 vL_t920 T) = true ∧ [(98, ((0 : Int), (0 : Int))), (99, (0, 0)), (100, (0, 0)), (6, (0, 0)), (21, (0, 0))].all (zg_dr o.1 (vL_h917.2.1.drop 218) (o.2.1.drop 218)) = true ∧ T = (o.1, o.2.1, vL_h917.2.2.1, o.2.2.toList ++ [], (0, 0)) := by
    rcases hxo with ⟨u, rfl, rfl⟩ | ⟨q, rfl, rfl⟩
    · have hall : ((zt_cut u.1 u.2.1 0 && zt_dr u.1 u.2.1) && (zt_row u.2.1 && zt_int u.2.2)) = true := hall
      rw [Bool.and_eq_true] at hall
      obtain ⟨hall, -⟩ := hall
      rw [Bool.and_eq_true] at hall
      exact ⟨_, hall.1, hall.2, rfl⟩
    · have hall : ((Nat.beq q.1 21 && (q.2.2.2.2.1.isEmpty && zx_le2 q.2.2.2.2.2 (0, 0))) && (zt_cut q.2.1 q.2.2.1 1 && zt_dr q.2.1 q.2.2.1)) = true := hall
      rw [Bool.and_eq_true] at hall
      obtain ⟨-, hall⟩ := hall
      rw [Bool.and_eq_true] at hall
      exact ⟨_, hall.1, hall.2, rfl⟩
  obtain ⟨T, hT1, hT2, hT3⟩ := hcut
  subst hT3
  refine zg_with (fun tys' hG' hh' => ?_)
  have hfs := zgL_dr_ok hG' (zgL_drop 218 hh) (zgL_drop 218 hh') hT2
  have hI' : zgL_Inv11 ws' := zgL_Inv11_kp (d := 0) hI kp hfs (by decide) (by decide) (by decide) (by decide) (by decide)
  refine zs_go h hRf hRl (by show 0 + 1 ≤ Rm.cells; omega) (by show 0 + 6 ≤ Rm.slots; omega) (fun s' hs' => ?_)
  rw [List.append_assoc]
  exact zg_T (m := 8) rfl hT1 (fun r' _ => K s' r' ws' hs' hI')
theorem zs_main (hx : p.tables.exec = Jvm.exec) (hb : c.code = code) (hr : meth.sig.returnType = ret) (hml : c.maxLocals = 7) (hlocks : meth.locks = false) (hl : l.stackTraces = false) (hLN : L ≤ 3072) (hf : zx_FOK l vwCl zx_Ts zx_nw zx_sts (zw_YK zx_Yt vLK false) zx_aos zx_PRt zx_rmt 386 vLf) (hfee : zg_EN l 378 (zg_nf vER38) (fun _ ws => zx_PF ws) (fun _ _ _ _ => True)) (hpay : zg_EN l 378 (zg_nf vER39) (fun _ ws => zx_PF ws) (fun _ _ _ _ => True)) (hharm : zg_EN l 378 (zg_nf vER44) (fun _ ws => zx_PF ws) (fun _ _ _ _ => True)) (hinstead : zg_EN l 378 (zg_nf vER45) (fun _ ws => zx_PF ws) (fun _ _ _ _ => True)) (hlay : zg_EN l 378 (zg_lw 24 vER48) (fun _ _ => True) (fun _ _ _ ws => zgR1e ws)) :
    ∀ (M : Nat) (s : State) (Rm : Room) (ad0 : zx_A0) (i0 : Nat) (r : List Int) (ws : va_W), zS e mi #[.ref b] below Q A ex b L xs s Rm → Rm.frames = 2048 → Rm.locals = 84000 → M ≤ Rm.cells → 6 * M ≤ Rm.slots → ad0.2 = [] → zgL_Inv11 ws → L + 6 ≤ i0 + 6 * M → zg_go p l e zR0 s mi #[.ref b] below meth c Q D A b ex ad0 7 23 vL_st (zgL_re L xs i0 ++ r) ws := by
  intro M
  induction M with
  | zero =>
    intro s Rm ad0 i0 r ws h hRf hRl hc hs had hI hM
    refine zgL_loop (L := L) (N0 := L + 6 - i0) (zs_C hx hb hml h) had hf (fun i r => zs_SX hLN h i r) (zs_KE hx hb hr hlocks h) hfee hpay hharm hinstead hlay (fun i1 r1 ws1 hN1 hI1 => ?_) _ (Nat.le_refl _) i0 r ws hI (Nat.le_refl _)
    refine zg_with (fun tys hG hh => ?_)
    have h7 : zx_ev (zgL_re L xs i1 ++ r1) ([(7, 1)], 0) = some (i1 : Int) := by
      refine zx_ev_iff.mpr ⟨1 * (i1 : Int) + 0, zx_evl_cons.mpr ⟨(i1 : Int), 0, rfl, rfl, rfl⟩, ?_⟩
      show (i1 : Int) = 1 * (i1 : Int) + 0 + 0
      omega
    have h0 : zx_ev (zgL_re L xs i1 ++ r1) ([(0, 1)], 0) = some (L : Int) := by
      refine zx_ev_iff.mpr ⟨1 * (L : Int) + 0, zx_evl_cons.mpr ⟨(L : Int), 0, rfl, rfl, rfl⟩, ?_⟩
      show (L : Int) = 1 * (L : Int) + 0 + 0
      omega
    have hb9 := zg_xb_ok hG vL_b917 (zx_sub_ev h7 h0)
    omega
  | succ M ih =>
    intro s Rm ad0 i0 r ws h hRf hRl hc hs had hI hM
    refine zgL_loop (L := L) (N0 := L + 6 - i0) (zs_C hx hb hml h) had hf (fun i r => zs_SX hLN h i r) (zs_KE hx hb hr hlocks h) hfee hpay hharm hinstead hlay (fun i1 r1 ws1 hN1 hI1 => ?_) _ (Nat.le_refl _) i0 r ws hI (Nat.le_refl _)
    refine zs_up h.2.2.2.1 ?_
    refine zs_told hx hb hml hl h hRf hRl (by omega) (by omega) had hI1 (fun s' r' ws' h' hI' => ?_)
    refine zgL_case (zs_C hx hb hml h') rfl hf (fun r => zs_SX hLN h' i1 r) (fun u r w9 hu => zs_KE hx hb hr hlocks h' u _ w9 hu) (fun r2 ws2 hI2 hy => ?_) (fun t ht => Or.inl (List.mem_singleton.mp ht)) vL_k920 r' ws' hI'
    refine zgL_back (fun r3 ws3 hI3 h6 => ?_) r2 ws2 hI2 hy
    exact ih s' _ (ws', []) (i1 + 6) r3 ws3 h' rfl rfl (by show M ≤ Rm.cells - 1; omega) (by show 6 * M ≤ Rm.slots - 6; omega) rfl hI3 (by omega)
end ZSB
end
