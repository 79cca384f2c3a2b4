/-! zx: the law's told's contract: it catches -/
theorem zx_ofWH {l : Launch} {y : MethodName} {ws ws' : List Jvm.Cond} {rm : Room} {Pc : Array Value → State → Prop} {Qc : Array Value → State → Outcome → State → Prop} {mc ms : Nat} {free : Addr → Prop} {cc : ByteArray} {maxL : Nat} {ret : Option FieldType} {hh : List (Nat × Nat × Nat × Nat)}
    (hy : plainName y.cls = true) (hw : ws = Jvm.Cond.codeWith y cc maxL ret hh :: ws')
    (body : ∀ p e s m args below meth c s₁, BodyLoose p l y (headSpec ws rm) cc maxL ret e s m args below meth c s₁ → c.maxLocals = maxL → Pc args s →
      W p l e (headSpec ws rm).room s m args below meth c s.heap [] 0 0 (MQ below Qc args s mc ms free) (entryFrame m args maxL)) : Met l y ws rm Pc Qc mc ms free := by
  refine MetFree.of_bodyS (code := cc) (maxLocals := maxL) (ret := ret) hy ?_ ?_
  · intro args s m h hn
    obtain ⟨m9, meth, c, hn9, h1, h2, h3, h4, -, h5, h6, -⟩ := Cond.codeWith_spec (atoms_spec (ws := ws) h _ (by rw [hw]; exact List.mem_cons_self))
    cases hn.symm.trans hn9
    exact ⟨meth, c, h1, h2, h3, h4, h5, h6⟩
  · intro p e s m args below meth c s₁ B hml hP _
    have hh0 : s₁.heap = s.heap := by rw [B.state]; rfl
    obtain ⟨t, a1, o, b1, b2, b3⟩ := body p e s m args below meth c s₁ B hml hP s₁ hh0 (Stand.of_body B)
    exact ⟨t, o, a1, b1, b2, b3⟩
def zx_t2o : List zx_Os → List zx_Ou
  | [] => []
  | .inr q :: r => (q.2.1, q.2.2.1, some (.inl ([], 1))) :: zx_t2o r
  | .inl _ :: r => zx_t2o r
theorem zx_t2o_mem {q : Nat × zx_T} : ∀ {l : List zx_Os}, .inr q ∈ l → (q.2.1, q.2.2.1, some (.inl ([], 1))) ∈ zx_t2o l
  | .inr q1 :: r, h => by
    rw [zx_t2o]
    rcases List.mem_cons.mp h with e | e
    · cases e; exact List.mem_cons_self
    · exact List.mem_cons_of_mem _ (zx_t2o_mem e)
  | .inl _ :: r, h => by
    rw [zx_t2o]
    rcases List.mem_cons.mp h with e | e
    · cases e
    · exact zx_t2o_mem e
set_option maxRecDepth 1000000 in
theorem zx_t2e (G : zx_G) (h : List zx_C) : zx_ex zx_Yt zx_dt zx_rmt (fun _ => false) zx_mt2 zx_f0 3 [(15, .iconst 1, 1), (16, .ireturn, 1)] G h [] (1, 6) [] = some [.inl (G, h, some (.inl ([], 1)))] := rfl
section ZXV
variable {l : Launch} {D : va_G} {A : Nat → Prop} {b : Nat} {ex : List Nat} {ρ : List Int} {tys : List (ClassId × FieldType)} {ws : va_W} {sz : Nat} {av : List Value} {G : zx_G} {h : List zx_C} {as : List zx_V} {los : List zx_Os} {n : Nat}
theorem zx_t2_ok (hl : l.stackTraces = false) {q2 : Nat × zx_T} {w k : zx_V} {ids : List Nat} {r : List zx_V} (hz : zx_ex zx_Yt zx_dt zx_rmt (fun pc => Nat.beq pc 5) zx_mt2 zx_f0 n zx_tt2 G h (zx_args 0 as) (0, 0) [] = some [.inr q2]) (hq1 : q2.1 = 5) (hq2 : q2.2.2.2.2.1 = w :: k :: .inr (.inl (ids, false)) :: r) (hq3 : q2.2.2.2.2.2 = (0, 0)) (hobj : zx_objs q2.2.2.1 10 ids = true) (hr8 : zx_cats r ≤ 8)
    (hz1 : zx_ex zx_Yt zx_dt zx_rmt (fun pc => Nat.beq pc 21) zx_mt1 zx_f0 n zx_tt1 q2.2.1 q2.2.2.1 (zx_args 0 [.inr (.inl (ids, false)), k, w]) (0, 0) [] = some los) (hall : ∀ o ∈ los, ∃ q : Nat × zx_T, o = .inr q ∧ q.1 = 21 ∧ q.2.2.2.2.1 = [] ∧ q.2.2.2.2.2 = (0, 0)) (hcats1 : zx_cats [.inr (.inl (ids, false)), k, w] ≤ 4) (hcats : zx_cats as ≤ 5)
    (hG : zx_ok ρ G) (hh : zx_F2 (fun c q => zx_RC vwCl b ex ρ (zx_as ws) tys c q.2) h ws) (ha : zx_F2 (zx_R b ex ρ (zx_as ws)) as av) (hA : ∀ q, sz ≤ q → A q) :
    Met l zx_y2 (Jvm.Cond.codeWith zx_y2 method_3_code 5 (some .int) [(0, 10, 13, 13)] :: zx_Ts) ({ frames := 12, cells := 1, slots := 6, locals := 600 }) (zx_Px D A ex tys ws sz av) (zx_Qc D vwCl A b ex ρ ws (zx_t2o los)) 1 6 A := by
  refine zx_ofWH (cc := method_3_code) (maxL := 5) (ret := some .int) (by decide) rfl ?_
  intro p e s m args below meth c s₁ B hml hv
  obtain ⟨rfl, ⟨hsz, hP, hK, hD, hCX, hnw, hao⟩, hXE⟩ := hv
  have hx := B.exec
  have hb := B.bytes
  have hret := B.returns
  have hts0 := atoms_spec (ws := Jvm.Cond.codeWith zx_y2 method_3_code 5 (some .int) [(0, 10, 13, 13)] :: zx_Ts) B.pre
  have hts : ∀ w ∈ zx_Ts, w.before av.toArray s = true := fun w hw => hts0 w (List.mem_cons_of_mem _ hw)
  have htab := vx_table (x := zx_y2) B (hts0 _ List.mem_cons_self)
  have hown : s.vm.findClass zx_oc13 = some m.cls := findClass_of_methodNamed B.named
  have hlocks := B.notSynchronized
  have hA' : ∀ q, s.heap.size ≤ q → A q := fun q hq => hA q (by rw [← hsz]; exact hq)
  have F : zx_FX p s m av.toArray meth c ({ frames := 12, cells := 1, slots := 6, locals := 600 } : Room) method_3_code zx_oc13 zx_Ts zx_nw vwCl A ex 5 zx_sts zx_Yt zx_aos zx_dt zx_mt2.2.1 :=
    ⟨hx, hb, hown, hts, hnw, hA', ⟨rfl, rfl⟩, (fun q => nomatch (show false = true from q)), rfl, hCX, hao, zx_CKt, zx_MK_of zx_kFc13 zx_kLc13⟩
  have hlv := lv_entry av (n := 5) (by rw [zx_words ha]; exact hcats)
  rw [lg_entry_eq]
  generalize (lg_sl av ++ List.replicate (5 - (lg_sl av).length) Slot.unset).toArray = ls at hlv ⊢
  have J : zx_J D vwCl A b ex (zx_as ws) 5 s ρ G h (zx_args 0 as) [] s.heap [] ls [] :=
    ⟨hG, tys, ws, lv_args 0 av, hK, hP, hD, ⟨va_S.rf, [], by rw [List.append_nil]⟩, hh, zx_args_ok 0 ha, hlv, trivial⟩
  refine zx_ex_ok (xs := fun _ => 0) (d := 0) F zx_arrs zx_f0_ok zx_LK0 zx_Ts_good zx_nw_kind ⟨by decide, by decide⟩ hml (zx_TB_of zx_bt2) n (0, .aload_n 3, 1) _ ρ G h (zx_args 0 as) (0, 0) [] [.inr q2] s.heap [] ls [] (fun q => nomatch (show false = true from q)) (fun _ hy => hy) J hz ⟨fun o ho => ?_, fun q hq r2 H' locs' ls' kc' J' => ?_⟩
  · rcases List.mem_cons.mp ho with e1 | e1
    · cases e1
    · cases e1
  · rcases List.mem_cons.mp hq with e1 | e1
    · cases e1
      obtain ⟨hG', tys', ws', lc', b1, b2, b3, ⟨b4, xt, b40⟩, b5, b6, b7, b8⟩ := J'
      rw [hq2] at b8
      match kc', b8 with
      | vw :: vk :: vx :: kr, b8 =>
        obtain ⟨hw', hk', hx', hr'⟩ := b8
        rcases hx' with ⟨h4, -⟩ | ⟨i0, a, h4, h5, rfl⟩
        · cases h4
        · have hk1 : q2.2.2.2.2.2.1 = 0 := by rw [hq3]
          have hk2 : q2.2.2.2.2.2.2 = 0 := by rw [hq3]
          rw [hk1, hk2, hq1]
          obtain ⟨o1, ss, o2⟩ := zx_objs_ok hobj h4
          have Bz : zx_B D vwCl A b ex (zx_as ws) 5 s (ρ ++ r2) q2.2.2.1 q2.2.2.2.1 r H' locs' ls' kr tys' ws' lc' := ⟨b1, b2, b3, ⟨b4, xt, b40⟩, b5, b6, b7, hr'⟩
          obtain ⟨en, g1, fs, rfl, g2⟩ := zx_cell Bz o1 h5 o2
          have hM := zx_t1_ok (l := l) (D := D) (A := A) (b := b) (ex := ex) (ρ := ρ ++ r2) (tys := tys') (ws := ws') (sz := H'.size) (av := [.ref a, vk, vw]) hl hz1 hall hcats1 hG' b5 ⟨Or.inr ⟨i0, a, h4, h5, rfl⟩, hk', hw', trivial⟩ (fun x hx => hA' x (Nat.le_trans b4.1 hx))
          have hcall : CallFix p m c method_3_code 5 s av.toArray zx_Ts zx_oc13 := ⟨hx, hb, hml, hown, hts⟩
          have hgo : ∀ w ∈ zx_Ts, w ∈ zx_Ts ∧ ((w.onTables && w.keeps) = true ∨ ∃ ty, w = .arrayClass ty) := fun w hw => ⟨hw, good_of_word (List.all_eq_true.mp zx_Ts_good w hw)⟩
          have hgT : GoodIn zx_Ts (Jvm.Cond.code zx_y1 prog_1_method_19_code 4 (some .int) :: zx_Ts) := by
            intro w hw
            exact hgo w ((List.mem_cons.mp hw).elim (fun g => by rw [g]; exact zx_w1t _ (by simp)) id)
          have hpre : ∀ U : State, U.heap = H' → s.WarmedH U.vm → zx_Px D A ex tys' ws' H'.size [.ref a, vk, vw] [Value.ref a, vk, vw].toArray U := fun U hU hW =>
            ⟨rfl, ⟨by rw [hU], by rw [hU]; exact b2, va_K.moved hW.alike b1, b3, by rw [hU]; exact zx_CX_move hW.alike (fun a h1 h2 => b4.2.1 a h1 h2) hCX, zx_nw_warm zx_nw_kind hW hnw, fun C hC => va_AO.moved hW.alike (hao C hC)⟩, zx_XE_move hW (fun a h1 h2 => by rw [hU]; exact b4.2.1 a h1 h2) hXE⟩
          have hcl10 : vwCl[10]? = some (RX11, TX11, 14) := rfl
          have hrun : vx_Run p l e ({ frames := 12, cells := 1, slots := 6, locals := 600 } : Room) s m av.toArray below meth c H' locs' 0 0 1 6 (F0 m 5 ls' (vw :: vk :: .ref a :: kr)) kr (fun _ _ _ => False) (zx_XC D A b ex (ρ ++ r2) ws' los) A :=
            vx_runV (As := [vk, vw]) (b := a) (rest := kr) (C := "OperaHouse") (own := zx_oc13) (index := 7) (n := 2) hcall hM (cwV 2 hts (fun w hw => by
              rcases List.mem_append.mp hw with hw | hw
              · simp only [List.mem_cons, List.not_mem_nil, or_false] at hw
                rcases hw with rfl | rfl | rfl | rfl
                · exact hgo _ (zx_w1t _ (by simp [zx_oc13]))
                · exact hgo _ (zx_w1t _ (by simp))
                · exact hgo _ (zx_w1t _ (by simp))
                · exact hgo _ (zx_w1t _ (by simp [zx_y1]))
              · exact hgT w hw) rfl rfl rfl ⟨rfl, by decide, by decide, by decide⟩ ⟨by decide, by decide⟩) ⟨zx_Px_blind, va_recv b1 b2 hcl10 g1, hpre⟩ rfl rfl b7.1 rfl (lv_room (by rw [zx_cats_ok hr']; exact hr8)) zx_d2.1 ⟨by decide, by decide⟩
          intro T hT X
          rcases hrun T hT X with ⟨v, st₀, t, T', L, h0, X', hL, e1, e2, hf, st⟩ | ⟨q9, st₀, t, T', L, E, ce, h0, X', hL, e1, e2, ⟨rfl, ⟨q3, hq3', r3, tys3, ws3, c1, c2, c3, c4, ⟨xt3, c5⟩, c6⟩, hF⟩, hce, hcv, hcl, st⟩
          · exact hf.elim
          · have hS3 : va_S A s.heap T'.heap (locs' ++ L) := ⟨Nat.le_trans b4.1 (by rw [e1, ← h0]; exact hF.1), fun q h1 h2 => by rw [e1, hF.2 q (by rw [h0]; exact Nat.lt_of_lt_of_le h1 b4.1) h2, h0]; exact b4.2.1 q h1 h2, fun q hq => by
                rcases List.mem_append.mp hq with h | h
                · exact b4.2.2 q h
                · exact hL q h⟩
            have hvm : t.vm.Alike s.vm := by rw [← e2]; exact X'.warmed.alike.symm
            rw [List.append_assoc] at c1 c6
            have kk : W p l e ({ frames := 12, cells := 1, slots := 6, locals := 600 } : Room) s m av.toArray below meth c T'.heap (locs' ++ L) (0 + 1) (0 + 6) (MQ below (zx_Qc D vwCl A b ex ρ ws (zx_t2o los)) av.toArray s 1 6 A) (F0 m 13 ls' [.ref q9]) := by
              refine lv_astore (nL := 5) hx hb zx_d2.2 b7 (by decide) rfl (fun ls'' hl'' => ?_)
              refine zx_ex_ok (xs := fun _ => 0) (d := 0) F zx_arrs zx_f0_ok zx_LK0 zx_Ts_good zx_nw_kind ⟨by decide, by decide⟩ hml (zx_TB_of zx_bt2) 3 (15, .iconst 1, 1) [(16, .ireturn, 1)] (ρ ++ (r2 ++ r3)) q3.2.1 q3.2.2.1 [] (1, 6) [] [.inl (q3.2.1, q3.2.2.1, some (.inl ([], 1)))] T'.heap (locs' ++ L) ls'' [] (fun q => nomatch (show false = true from q)) (fun y hy => by
                  rcases List.mem_cons.mp hy with rfl | hy
                  · simp [zx_mt2, zx_tt2]
                  · rcases List.mem_cons.mp hy with rfl | hy
                    · simp [zx_mt2, zx_tt2]
                    · cases hy) ⟨c1, tys3, ws3, [], va_K.moved hvm c2, by rw [e1]; exact c3, c4, ⟨hS3, xt ++ xt3, by rw [c5, b40, List.append_assoc]⟩, c6, trivial, ⟨hl''.1, hl''.2.1, fun _ hq => absurd hq List.not_mem_nil⟩, trivial⟩ (zx_t2e _ _) ⟨fun o ho => ?_, fun q hq => ?_⟩
              · intro r4 H4 locs4 ls4 kc4 pc4 k4 ir tys4 ws4 f1 f2 f3 f4 f5 f6 f7 f8 f9 f10 f11
                rcases List.mem_cons.mp ho with e9 | e9
                · cases e9
                  refine W.widen (k := 1) (n := 6) f8 f9 ?_
                  rcases f11 with ⟨-, e3, -⟩ | ⟨rfl, e3, w3, e4, rfl, e5, e6⟩ | ⟨-, q5, x5, e3, -⟩ | ⟨-, w5, e3, -⟩
                  · cases e3
                  · cases e4
                    have hx1 : zx_R b ex ((ρ ++ (r2 ++ r3)) ++ r4) (zx_as ws4) (.inl ([], 1)) (.int w3) := ⟨w3, rfl, e5⟩
                    have hn := (zx_fit_ok (ty := .int) f1 e6 hx1).1
                    refine W.zret hx hb hret hn (fun t9 ht9 hW9 => ?_) f5.2.2 f10
                    rw [List.append_assoc] at f1 f7 hx1
                    exact ⟨⟨_, zx_t2o_mem hq3', some (.int w3), (r2 ++ r3) ++ r4, tys4, ws4, rfl, f1, va_K.moved hW9.alike f2, by rw [ht9]; exact f3, f4, f6, f7, hx1⟩, f5.F ht9⟩
                  · cases e3
                  · cases e3
                · cases e9
              · rcases List.mem_cons.mp hq with e9 | e9
                · cases e9
                · cases e9
            have kx := vx_catch (own := zx_oc13) (name := "java/util/NoSuchElementException") (E := "java/util/NoSuchElementException") (ce := ce) (q := q9) (pc := 5) (rest := kr) hown [] ⟨0, 10, 13, 13⟩ [] htab (fun _ hz' => nomatch hz') (by decide) (by decide) (hts _ (zx_w1t _ (by simp [zx_oc13]))) (va_Nw.use (w := .castable "java/util/NoSuchElementException" "java/util/NoSuchElementException") rfl (hXE.1 _ (by simp [zx_nx]))) (by rw [e1]; exact hce) hcv hcl kk
            obtain ⟨t2, a1, a2⟩ := kx T' rfl X'
            exact ⟨t2, st.trans a1, a2⟩
      | [], b8 => exact b8.elim
      | [_], b8 => exact b8.2.elim
      | [_, _], b8 => exact b8.2.2.elim
    · cases e1
end ZXV
