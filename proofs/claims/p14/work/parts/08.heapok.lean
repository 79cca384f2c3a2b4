noncomputable section
/-! zx: what the instructions on cells do is what the machine does -/
/-- the fields of constant objects that are read, and these objects' class -/
def zx_fk : List (String × String × String) := [("OperaHouse$Token", "sort", "I"), ("OperaHouse$Token", "code", "I")]
def zx_fc : String := "OperaHouse$Token"
def zx_XO (row : List Int) (a : Nat) (A : Nat → Prop) (U : State) (H : Heap) : Prop := va_O zx_fc a A U H ∧ ∀ (k : Nat) (o n d : String), zx_fk[k]? = some (o, n, d) → ∀ v, row[k]? = some v → va_OF o n d (.int (Int32.ofInt v)) a A U H
/-- what the words of the tokens are -/
def zx_txt : List (List Nat) := [[114, 101, 115, 116], [100, 97, 121], [119, 101, 101, 107], [118, 111, 105, 99, 101], [108, 101, 97, 118, 101], [116, 111], [102, 101, 101], [105, 102], [111, 114], [97, 110, 100], [110, 111, 116], [114, 111, 111, 109], [109, 97, 114, 107, 115], [102, 117, 108, 108], [110, 105, 103, 104, 116], [108, 97, 116, 101], [99, 111, 118, 101, 114], [105, 110, 115, 116, 101, 97, 100], [104, 111, 117, 114, 115], [110, 116, 104], [111, 118, 101, 114], [60], [61], [62], [59], [40], [41], [], [], []]
/-- the tokens' row and their texts; what the JDK's own text methods ask -/
def zx_XT (ex : List Nat) (A : Nat → Prop) (U : State) (H : Heap) : Prop :=
  (∃ aA : Nat, va_Z zx_fc "ALL" "[LOperaHouse$Token;" (.ref aA) A U H ∧ va_T (.object zx_fc) aA 30 (fun j => .ref (ex.getD (8 + j) 0)) A U H) ∧
  ((∃ v : Value, v.isRef = true ∧ va_Z "jdk/internal/util/Preconditions" "SIOOBE_FORMATTER" "Ljava/util/function/BiFunction;" v A U H) ∧ va_Z "java/lang/String" "COMPACT_STRINGS" "Z" (.int 1) A U H) ∧
  ∀ j : Nat, j < 30 → ∃ aK aV : Nat, va_OF zx_fc "text" "Ljava/lang/String;" (.ref aK) (ex.getD (8 + j) 0) A U H ∧ va_O "java/lang/String" aK A U H ∧ va_OF "java/lang/String" "coder" "B" (.int 0) aK A U H ∧ va_OF "java/lang/String" "value" "[B" (.ref aV) aK A U H ∧ va_T .byte aV (zx_txt.getD j []).length (fun k => .int (Int32.ofNat ((zx_txt.getD j []).getD k 0))) A U H
theorem zx_XT_moved {ex : List Nat} {A : Nat → Prop} {u U : State} {H : Heap} (hvm : u.vm.Alike U.vm) (h : zx_XT ex A u H) : zx_XT ex A U H := by
  obtain ⟨⟨aA, h1, h2⟩, ⟨⟨v, h3, h4⟩, h5⟩, h6⟩ := h
  refine ⟨⟨aA, va_Z.moved hvm h1, va_T.moved hvm h2⟩, ⟨⟨v, h3, va_Z.moved hvm h4⟩, va_Z.moved hvm h5⟩, fun j hj => ?_⟩
  obtain ⟨aK, aV, k1, k2, k3, k4, k5⟩ := h6 j hj
  exact ⟨aK, aV, va_OF.moved hvm k1, va_O.moved hvm k2, va_OF.moved hvm k3, va_OF.moved hvm k4, va_T.moved hvm k5⟩
theorem zx_XT_kept {ex : List Nat} {A : Nat → Prop} {U : State} {H H1 : Heap} (hq : ∀ a : Nat, a < H.size → ¬ A a → H1[a]? = H[a]?) (h : zx_XT ex A U H) : zx_XT ex A U H1 := by
  obtain ⟨⟨aA, h1, h2⟩, ⟨⟨v, h3, h4⟩, h5⟩, h6⟩ := h
  refine ⟨⟨aA, h1.kept hq, h2.kept hq⟩, ⟨⟨v, h3, h4.kept hq⟩, h5.kept hq⟩, fun j hj => ?_⟩
  obtain ⟨aK, aV, k1, k2, k3, k4, k5⟩ := h6 j hj
  exact ⟨aK, aV, k1.kept hq, k2.kept hq, k3.kept hq, k4.kept hq, k5.kept hq⟩
theorem zx_XT_narrow {ex : List Nat} {A B : Nat → Prop} {U : State} {H : Heap} (hAB : ∀ q, B q → A q) (h : zx_XT ex A U H) : zx_XT ex B U H := by
  obtain ⟨⟨aA, h1, h2⟩, ⟨⟨v, h3, h4⟩, h5⟩, h6⟩ := h
  refine ⟨⟨aA, h1.narrow hAB, h2.narrow hAB⟩, ⟨⟨v, h3, h4.narrow hAB⟩, h5.narrow hAB⟩, fun j hj => ?_⟩
  obtain ⟨aK, aV, k1, k2, k3, k4, k5⟩ := h6 j hj
  exact ⟨aK, aV, k1.narrow hAB, k2.narrow hAB, k3.narrow hAB, k4.narrow hAB, k5.narrow hAB⟩
/-- statics that hold a reference, and rows of numbers behind them, or constant objects -/
def zx_CX (ex : List Nat) (A : Nat → Prop) (U : State) (H : Heap) (sts : List (String × String × String × Nat)) (Y : zx_Y) : Prop :=
  ((∀ q ∈ sts, ∃ a, ex[q.2.2.2]? = some a ∧ va_Z q.1 q.2.1 q.2.2.1 (.ref a) A U H) ∧ zx_XT ex A U H) ∧
  (∀ q ∈ Y.1, ∃ a, q.1 < 64 ∧ ex[q.1]? = some a ∧ (∀ n ∈ q.2, -2147483648 ≤ n ∧ n ≤ 2147483647) ∧ if q.1 < 8 then va_T .int a q.2.length (fun j => .int (Int32.ofInt (q.2.getD j 0))) A U H else zx_XO q.2 a A U H)
def zx_CK (cl : List vw_C) (Ts : List Jvm.Cond) (dt : List (List Nat)) : Prop :=
  ∀ (ci : Nat) (C : String) (T : u_T) (N : Nat), cl[ci]? = some (C, T, N) → (∀ w ∈ u_ws C T N, w ∈ Ts) ∧ ∃ ty : Nat → FieldType, (∀ k, k < N → parseFieldDescriptor (T k).2.2.1 = some (ty k)) ∧ (∀ a, a < N → ∀ b, b < N → a ≠ b → (T a).2.1 ≠ (T b).2.1) ∧ ∀ d, dt[ci]? = some d → d.length = N ∧ ∀ j, j < N → d[j]? = some (zx_tag (ty j)) ∧ zx_tag (ty j) ≠ 9
def zx_MK (own : String) (cl : List vw_C) (Ts nw : List Jvm.Cond) (sts : List (String × String × String × Nat)) (aos : List String) (M : zx_M) : Prop :=
  (∀ ix q, zx_mF M ix = some q → ∃ (C : String) (T : u_T) (N : Nat) (ty : FieldType), cl[q.1]? = some (C, T, N) ∧ q.2.1 < N ∧ Jvm.Cond.fieldLink own ix (T q.2.1).1 (T q.2.1).2.1 (T q.2.1).2.2.1 ∈ Ts ∧ parseFieldDescriptor (T q.2.1).2.2.1 = some ty ∧ zx_tag ty = q.2.2.1 ∧ (T q.2.1).2.2.2 = q.2.2.2 ∧ (q.2.2.2 = true → (T q.2.1).1 = own ∨ zx_mB M = false)) ∧
  (∀ ix id, zx_mS M ix = some id → ∃ t ∈ sts, t.2.2.2 = id ∧ (Jvm.Cond.fieldLink own ix t.1 t.2.1 t.2.2.1 ∈ Ts ∨ ∃ host, Jvm.Cond.fieldLinkNest own ix t.1 t.2.1 t.2.2.1 host ∈ nw)) ∧
  (∀ ix ci, zx_mC M ix = some ci → ∃ (C : String) (T : u_T) (N : Nat), cl[ci]? = some (C, T, N) ∧ (ix < 65536 → Jvm.Cond.classLink own ix C ∈ Ts ∧ Jvm.Cond.instantiable C N ∈ Ts ∧ Jvm.Cond.initialized C ∈ Ts) ∧ (65536 ≤ ix → Jvm.Cond.classLink own (ix - 65536) C ∈ Ts ∧ C ∈ aos)) ∧
  (∀ ix n, zx_mI M ix = some n → ∃ w : Int32, w.toInt = n ∧ Jvm.Cond.constant own ix w ∈ Ts) ∧
  (∀ ix, zx_mL M ix = true → ∃ w : Int64, Jvm.Cond.constantLong own ix w ∈ Ts) ∧
  (∀ ix f key k, zx_mN M (500000 + ix) = some (f, key, k) → ∃ o n d ref, zx_fk[key.toNat]? = some (o, n, d) ∧ Jvm.Cond.fieldLink own ix ref n d ∈ Ts ∧ ∀ (U : State) x, U.fieldFound? o n d = some x → U.fieldFound? ref n d = some x)
/-- a frame, and what goes with it -/
def zx_FX (p : Program) (s : State) (m : MethodId) (args : Array Value) (meth : Method) (c : Code) (R : Room) (cc : ByteArray) (own : String) (Ts nw : List Jvm.Cond) (cl : List vw_C) (A : Nat → Prop) (ex : List Nat) (nL : Nat) (sts : List (String × String × String × Nat)) (Y : zx_Y) (aos : List String) (dt : List (List Nat)) (M : zx_M) : Prop :=
  p.tables.exec = Jvm.exec ∧ c.code = cc ∧ s.vm.findClass own = some m.cls ∧ (∀ w ∈ Ts, w.before args s = true) ∧ (∀ w ∈ nw, va_Nw w s) ∧ (∀ q, s.heap.size ≤ q → A q) ∧ (R.cells = (zx_mR M).1 ∧ R.slots = (zx_mR M).2) ∧ (zx_mB M = true → meth.name = "<init>") ∧ zx_mV M = nL ∧ zx_CX ex A s s.heap sts Y ∧ (∀ C ∈ aos, va_AO C s) ∧ zx_CK cl Ts dt ∧ zx_MK own cl Ts nw sts aos M
/-- the script, where there is one -/
def zx_SX (b : Nat) (xs : Nat → Int32) (A : Nat → Prop) (s : State) (M : zx_M) (ρ : List Int) : Prop :=
  zx_mX M = true → ∃ L i0 : Nat, va_X b L xs s s.heap ∧ b < s.heap.size ∧ ¬ A b ∧ L < 2 ^ 31 ∧ ρ[0]? = some (L : Int) ∧ ρ[7]? = some (i0 : Int) ∧ ∀ j, j < 6 → ρ[1 + j]? = some (xs (i0 + j)).toInt
theorem zx_set_same {α : Type} {l : List α} {i : Nat} {a : α} (h : l[i]? = some a) : l.set i a = l := by
  apply List.ext_getElem?
  intro j
  rw [List.getElem?_set]
  by_cases hj : i = j
  · subst hj
    rw [if_pos rfl, if_pos (List.getElem?_eq_some_iff.mp h).1, h]
  · rw [if_neg hj]
theorem zx_as_set {ws : va_W} {i a : Nat} {e0 e : va_E} (h : ws[i]? = some (a, e0)) : zx_as (ws.set i (a, e)) = zx_as ws := by
  unfold zx_as
  rw [List.map_set]
  refine zx_set_same ?_
  rw [List.getElem?_map, h]
  rfl
section ZXH
variable {p : Program} {l : Launch} {e : Env} {R : Room} {s : State} {m : MethodId} {args : Array Value} {below : List Frame} {meth : Method} {c : Code} {Q : State → Prop}
variable {D : va_G} {cl : List vw_C} {A : Nat → Prop} {b : Nat} {ex : List Nat} {ad0 : zx_A0} {nL : Nat} {ρ : List Int} {G : zx_G} {h : List zx_C} {lv : List (Nat × zx_V)} {k : Nat × Nat} {sk : List zx_V} {H : Heap} {locs : List Loc} {ls : Array Slot} {kc : List Value} {tys : List (ClassId × FieldType)} {ws : va_W} {lc : List (Nat × Value)}
variable {cc : ByteArray} {pc : Nat} {M : zx_M} {z : List (Nat × zx_T)} {own : String} {Ts nw : List Jvm.Cond} {sts : List (String × String × String × Nat)} {Y : zx_Y} {aos : List String} {dt : List (List Nat)} {xs : Nat → Int32}
theorem zx_cell (B : zx_B D cl A b ex ad0 nL s ρ h lv sk H locs ls kc tys ws lc) {i a : Nat} {q : zx_C} (hi : ¬ i < 64) (ha : zx_ad ex (zx_as ws) i = some a) (hc : h[i - 64]? = some q) : ∃ en, ws[i - 64]? = some (a, en) ∧ zx_RC cl b ex ρ (zx_as ws) tys q en := by
  obtain ⟨⟨a', en⟩, h1, h2⟩ := zx_F2_get B.2.2.2.2.1 hc
  rw [zx_ad, if_neg hi, List.getElem?_map, h1] at ha
  have h3 : a' = a := Option.some.inj ha
  subst h3
  exact ⟨en, h1, h2⟩
theorem zx_B_set (B : zx_B D cl A b ex ad0 nL s ρ h lv sk H locs ls kc tys ws lc) {i a : Nat} {e0 en : va_E} {q : zx_C} (hk : ¬ i ∈ ad0.2) (hw : ws[i]? = some (a, e0)) (hq : zx_RC cl b ex ρ (zx_as ws) tys q en) {H1 : Heap} {locs1 : List Loc} (P1 : va_P D cl (ws.set i (a, en)) H1) (D1 : va_D A (ws.set i (a, en))) (S1 : va_S A s.heap H1 locs1) : zx_B D cl A b ex ad0 nL s ρ (h.set i q) lv sk H1 locs1 ls kc tys (ws.set i (a, en)) lc := by
  obtain ⟨h1, h2, h3, h4, h5, h6, h7, h8⟩ := B
  refine ⟨h1, P1, D1, ⟨S1, by rw [zx_as_set hw]; exact h4.2.1, fun j hj x hx => ?_⟩, ?_, ?_, h7, ?_⟩
  · rw [List.getElem?_set_ne (fun e => hk (by rw [e]; exact hj))]
    exact h4.2.2 j hj x hx
  · rw [zx_as_set hw]
    exact zx_F2_set (R := fun c q => zx_RC cl b ex ρ (zx_as ws) tys c q.2) (b := (a, en)) hq i h5
  · rw [zx_as_set hw]; exact h6
  · rw [zx_as_set hw]; exact h8
theorem zx_xslot_W {pc' : Nat} {sl : zx_S} {x : Value} (hG : zx_ok ρ G) (B : zx_B D cl A b ex ad0 nL s ρ h lv sk H locs ls kc tys ws lc) (hz : zx_xslot pc' G h lv k sk sl = some z) (hx : zx_RS b ex ρ (zx_as ws) sl x) (K : zx_KK p l e R s m args below meth c Q D cl A b ex ad0 nL ρ z) : W p l e R s m args below meth c H locs k.1 k.2 Q (F0 m pc' ls (x :: kc)) := by
  unfold zx_xslot at hz
  rcases sl with v | t
  · exact zx_push_W hG B hz hx K
  · obtain ⟨w, h1, h2, h3⟩ := hx
    subst h1
    refine zx_go_W B hz (fun q hq => ?_) K
    cases hq
    exact zx_fr_ok hG h2 h3
theorem zx_xget_ok {ix : Nat} (F : zx_FX p s m args meth c R cc own Ts nw cl A ex nL sts Y aos dt M) (hd : decode cc pc = .ok (.getfield ix, 3)) (hG : zx_ok ρ G) (B : zx_B D cl A b ex ad0 nL s ρ h lv sk H locs ls kc tys ws lc) (hz : zx_xget M pc G h lv k sk ix = some z) (K : zx_KK p l e R s m args below meth c Q D cl A b ex ad0 nL ρ z) : W p l e R s m args below meth c H locs k.1 k.2 Q (F0 m pc ls kc) := by
  obtain ⟨hx, hb, hown, hts, hnw, hA, hR, hin, hnL, hCX, hao, hCK, hMK⟩ := F
  unfold zx_xget at hz
  split at hz
  · rename_i q hq
    split at hz
    · rename_i ids r
      obtain ⟨x, kr, rfl, hv, B1⟩ := zx_top1 B
      rcases hv with ⟨h4, -⟩ | ⟨i0, a, h4, h5, rfl⟩
      · cases h4
      · obtain ⟨y, h6, h7⟩ := zx_all_ok hz h4
        have K' : zx_KK p l e R s m args below meth c Q D cl A b ex ad0 nL ρ y := fun q hq => K q (h7 q hq)
        unfold zx_xget1 at h6
        simp only [zy_get_eq, zy_set_eq] at h6
        split at h6
        · cases h6
        · rename_i hi
          split at h6
          · rename_i o ho
            split at h6
            · rename_i hoq
              split at h6
              · rename_i sl hsl
                obtain ⟨en, g1, fs, rfl, g2⟩ := zx_cell B1 hi h5 ho
                obtain ⟨fv, g3, g4⟩ := zx_F2_get g2 hsl
                obtain ⟨C, T, N, ty, m1, m2, m3, m4, m5, m6, m7⟩ := hMK.1 ix q hq
                exact va_get (D := D) (C := C) (T := T) (N := N) hx hb hts (hCK _ _ _ _ m1).1 hown B1.1 B1.2.1 (i0 - 64) g1 (by rw [hoq]; exact m1) q.2.1 m2 (hts _ m3) (fun _ h9 => h9) g3 hd (zx_xslot_W hG B1 h6 g4 K')
              · cases h6
            · cases h6
          · cases h6
    · cases hz
  · cases hz
theorem zx_xput_ok {ix : Nat} (hkk : zx_wk1 ad0.2 sk = true) (F : zx_FX p s m args meth c R cc own Ts nw cl A ex nL sts Y aos dt M) (hd : decode cc pc = .ok (.putfield ix, 3)) (hG : zx_ok ρ G) (B : zx_B D cl A b ex ad0 nL s ρ h lv sk H locs ls kc tys ws lc) (hz : zx_xput M pc G h lv k sk ix = some z) (K : zx_KK p l e R s m args below meth c Q D cl A b ex ad0 nL ρ z) : W p l e R s m args below meth c H locs k.1 k.2 Q (F0 m pc ls kc) := by
  obtain ⟨hx, hb, hown, hts, hnw, hA, hR, hin, hnL, hCX, hao, hCK, hMK⟩ := F
  unfold zx_xput at hz
  simp only [zy_get_eq, zy_set_eq] at hz
  split at hz
  · rename_i q hq
    split at hz
    · rename_i v id r
      obtain ⟨x, kr0, rfl, hv, B0⟩ := zx_top1 B
      obtain ⟨x2, kr, rfl, hv2, B1⟩ := zx_top1 B0
      split at hz
      · cases hz
      · rename_i hi
        rcases hv2 with ⟨h4, -⟩ | ⟨i0, a, h4, h5, rfl⟩
        · cases h4
        · have hid : i0 = id := List.mem_singleton.mp h4
          subst hid
          split at hz
          · rename_i o ho
            split at hz
            · rename_i hc
              obtain ⟨c1, c2, c3, c4⟩ := hc
              have hkk : ¬ (i0 - 64) ∈ ad0.2 := zx_wk0_ok (ids := [i0]) hkk (List.mem_singleton.mpr rfl)
              obtain ⟨en, g1, fs, rfl, g2⟩ := zx_cell B1 hi h5 ho
              obtain ⟨C, T, N, ty, m1, m2, m3, m4, m5, m6, m7⟩ := hMK.1 ix q hq
              obtain ⟨u1, ty0, u2, u3, -⟩ := hCK _ _ _ _ m1
              obtain ⟨n1, n2⟩ := zx_fit_ok (ty := ty) hG (by rw [m5]; exact c3) hv
              have hl : q.2.1 < fs.length := by rw [← zx_F2_len g2]; exact c2
              have fin : ∀ (H1 : Heap) (locs1 : List Loc), va_P D cl (ws.set (i0 - 64) (a, .inr (o.1, fs.set q.2.1 x))) H1 → va_D A (ws.set (i0 - 64) (a, .inr (o.1, fs.set q.2.1 x))) → va_S A s.heap H1 locs1 → W p l e R s m args below meth c H1 locs1 k.1 k.2 Q (F0 m (pc + 3) ls kr) := by
                intro H1 locs1 P1 D1 S1
                refine zx_K1 K (zx_one hz) (zx_J_same hG (zx_B_set B1 hkk g1 ?_ P1 D1 S1))
                exact ⟨fs.set q.2.1 x, rfl, zx_F2_set (R := zx_RS b ex ρ (zx_as ws)) (a := .inl v) hv q.2.1 g2⟩
              cases hf : q.2.2.2 with
              | false => exact va_put (D := D) (C := C) (T := T) (N := N) hx hb hts u1 ty0 u2 u3 hown B1.1 B1.2.1 B1.2.2.1 B1.2.2.2.1.1 (i0 - 64) g1 (by rw [c1]; exact m1) q.2.1 m2 (hts _ m3) (fun _ h9 => h9) (by rw [m6]; exact hf) m4 n1 n2 hl hd fin
              | true =>
                have hB : zx_mB M = true := by
                  rw [hf] at c4
                  simpa using c4
                have hdecl : (T q.2.1).1 = own := by
                  rcases m7 hf with g | g
                  · exact g
                  · rw [hB] at g; cases g
                exact va_putF (D := D) (C := C) (T := T) (N := N) hx hb hts u1 ty0 u2 u3 hown B1.1 B1.2.1 B1.2.2.1 B1.2.2.2.1.1 (i0 - 64) g1 (by rw [c1]; exact m1) q.2.1 m2 (hts _ m3) (fun _ h9 => h9) (by rw [m6]; exact hf) (hin hB) hdecl m4 n1 n2 hl hd fin
            · cases hz
          · cases hz
    · cases hz
  · cases hz
theorem zx_cl {w : Int32} {t : Int} (h : w.toInt = t) : w.toNatClampNeg = t.toNat := by rw [← h]; rfl
theorem zx_xal1_W {pc' : Nat} {ar : Nat × Nat × Bool × List zx_S} {e1 : zx_L} {G1 : zx_G} {w : Int32} {el : Nat → Value} (hG : zx_ok ρ G1) (B : zx_B D cl A b ex ad0 nL s ρ h lv sk H locs ls kc tys ws lc) (he : zx_ev ρ e1 = some w.toInt) (hz : zx_xal1 pc' h lv k sk ar e1 G1 = some z) (hel : zx_RA b ex ρ (zx_as ws) ar.2.1 ar.2.2.1 ar.2.2.2 el) (K : zx_KK p l e R s m args below meth c Q D cl A b ex ad0 nL ρ z) : vp_in w ar.2.1 ∧ W p l e R s m args below meth c H locs k.1 k.2 Q (F0 m (pc' + 1) ls (el w.toNatClampNeg :: kc)) := by
  unfold zx_xal1 at hz
  simp only [zy_get_eq, zy_set_eq] at hz
  split at hz
  · cases hz
  · rename_i t ht
    obtain ⟨q1, q2⟩ := zx_rng_ok hG ht he
    split at hz
    · rename_i hc
      obtain ⟨c1, c2⟩ := hc
      refine ⟨vp_in_iff.mpr ⟨by omega, by omega⟩, ?_⟩
      have hw : w.toNatClampNeg < ar.2.1 := by
        show w.toInt.toNat < ar.2.1
        omega
      split at hz
      · rename_i hs
        rw [hs] at hel
        obtain ⟨sl, fs, h1, h2, h3⟩ := hel
        rw [h1] at hz
        dsimp only at hz
        split at hz
        · rename_i v hv
          obtain ⟨q, g1, g2, g3⟩ := zx_fl_ok he hv
          obtain ⟨u, k1, k2, k3, k4⟩ := h3 q g1
          have hu := g3 u k1
          subst hu
          subst g2
          exact zx_push_W hG B hz k4 K
        · exact zx_xslot_W hG B hz (h2 _ hw) K
      · rename_i hs
        have hs : ar.2.2.1 = false := by simpa using hs
        rw [hs] at hel
        split at hz
        · rename_i hte
          split at hz
          · rename_i sl hsl
            refine zx_xslot_W hG B hz ?_ K
            have h3 : w.toNatClampNeg = t.1.toNat := zx_cl (by omega)
            rw [h3]
            exact hel.2 _ _ hsl
          · cases hz
        · cases hz
    · cases hz
theorem zx_xal_ok {ok : Nat → Bool} (hG : zx_ok ρ G) (B : zx_B D cl A b ex ad0 nL s ρ h lv sk H locs ls kc tys ws lc) (hz : zx_xal pc G h lv k sk ok = some z) (K : zx_KK p l e R s m args below meth c Q D cl A b ex ad0 nL ρ z) : ∃ (w : Int32) (a : Nat) (kr : List Value) (i0 t0 : Nat) (cA : ClassId) (tg n : Nat), kc = .int w :: .ref a :: kr ∧ ok tg = true ∧ tys[t0]? = some (cA, zx_ty cl tg) ∧ vp_in w n ∧
    ((tg < 3 ∧ ∃ f : Nat → Int32, ws[i0]? = some (a, .inl (cA, n, .inl f)) ∧ W p l e R s m args below meth c H locs k.1 k.2 Q (F0 m (pc + 1) ls (.int (f w.toNatClampNeg) :: kr))) ∨
     (3 ≤ tg ∧ ∃ f : Nat → Option Nat, ws[i0]? = some (a, .inl (cA, n, .inr (.inr (.inr (.inr f))))) ∧ W p l e R s m args below meth c H locs k.1 k.2 Q (F0 m (pc + 1) ls (va_rf (f w.toNatClampNeg) :: kr)))) := by
  unfold zx_xal at hz
  split at hz
  · rename_i e1 ids r
    obtain ⟨w, kr0, rfl, he, B0⟩ := zx_topi B
    obtain ⟨x2, kr, rfl, hv2, B1⟩ := zx_top1 B0
    rcases hv2 with ⟨h4, -⟩ | ⟨i0, a, h4, h5, rfl⟩
    · cases h4
    · obtain ⟨y, h6, h7⟩ := zx_all_ok hz h4
      have K' : zx_KK p l e R s m args below meth c Q D cl A b ex ad0 nL ρ y := fun q hq => K q (h7 q hq)
      unfold zx_xal2 at h6
      simp only [zy_get_eq, zy_set_eq] at h6
      split at h6
      · cases h6
      · rename_i hi
        split at h6
        · rename_i ar har
          split at h6
          · rename_i hok
            obtain ⟨en, g1, cA, t0, g2, g3⟩ := zx_cell B1 hi h5 har
            have main : ∀ (el : Nat → Value), zx_RA b ex ρ (zx_as ws) ar.2.1 ar.2.2.1 ar.2.2.2 el → vp_in w ar.2.1 ∧ W p l e R s m args below meth c H locs k.1 k.2 Q (F0 m (pc + 1) ls (el w.toNatClampNeg :: kr)) := by
              intro el hel
              split at h6
              · exact zx_xal1_W hG B1 he h6 hel K'
              · split at h6
                · rename_i gs hgs
                  obtain ⟨G', k1, k2⟩ := zx_split_ok hG he hgs
                  obtain ⟨y2, k3, k4⟩ := zx_all_ok h6 k1
                  exact zx_xal1_W k2 B1 he k3 hel (fun q hq => K' q (k4 q hq))
                · cases h6
            rcases g3 with ⟨g3, f, rfl, g4⟩ | ⟨g3, f, rfl, g4⟩
            · obtain ⟨r1, r2⟩ := main _ g4
              exact ⟨w, a, kr, i0 - 64, t0, cA, ar.1, ar.2.1, rfl, hok, g2, r1, Or.inl ⟨g3, f, g1, r2⟩⟩
            · obtain ⟨r1, r2⟩ := main _ g4
              exact ⟨w, a, kr, i0 - 64, t0, cA, ar.1, ar.2.1, rfl, hok, g2, r1, Or.inr ⟨g3, f, g1, r2⟩⟩
          · cases h6
        · cases h6
  · cases hz
end ZXH
end
