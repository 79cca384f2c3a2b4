noncomputable section
/-! zx: runs of whole methods are the machine's -/
def zx_end (b : Nat) (ex : List Nat) (ρ : List Int) (ad : List Nat) (rt : Nat) (ir : Instr) (o : zx_Ou) (kc : List Value) : Prop :=
  (ir = .return_ ∧ o.2.2 = none ∧ kc = [] ∧ rt = 4) ∨
  (ir = .ireturn ∧ ∃ (e : zx_L) (w : Int32), o.2.2 = some (.inl e) ∧ kc = [.int w] ∧ zx_ev ρ e = some w.toInt ∧ zx_fit o.1 rt (.inl e) = true) ∨
  (ir = .areturn ∧ ∃ (q : List Nat × Bool) (x : Value), o.2.2 = some (.inr (.inl q)) ∧ kc = [x] ∧ zx_R b ex ρ ad (.inr (.inl q)) x ∧ rt = 3) ∨
  (ir = .lreturn ∧ ∃ w : Int64, o.2.2 = some zx_lg ∧ kc = [.long w] ∧ rt = 2)
def zx_KO (p : Program) (l : Launch) (e : Env) (R : Room) (s : State) (m : MethodId) (args : Array Value) (below : List Frame) (meth : Method) (c : Code) (Q : State → Prop) (D : va_G) (cl : List vw_C) (A : Nat → Prop) (b : Nat) (ex : List Nat) (ad0 : zx_A0) (nL : Nat) (ρ : List Int) (cc : ByteArray) (rt : Nat) (rm : Nat × Nat) (os : List zx_Os) : Prop :=
  (∀ o : zx_Ou, .inl o ∈ os → ∀ (r2 : List Int) (H' : Heap) (locs' : List Loc) (ls' : Array Slot) (kc' : List Value) (pc' : Nat) (k' : Nat × Nat) (ir : Instr) (tys : List (ClassId × FieldType)) (ws : va_W), zx_ok (ρ ++ r2) o.1 → va_K D cl tys s → va_P D cl ws H' → va_D A ws → va_S A s.heap H' locs' → zx_KP ad0 ws → zx_F2 (fun c q => zx_RC cl b ex (ρ ++ r2) (zx_as ws) tys c q.2) o.2.1 ws → k'.1 ≤ rm.1 → k'.2 ≤ rm.2 → decode cc pc' = .ok (ir, 1) → zx_end b ex (ρ ++ r2) (zx_as ws) rt ir o kc' →
    W p l e R s m args below meth c H' locs' k'.1 k'.2 Q (F0 m pc' ls' kc')) ∧
  (∀ q : Nat × zx_T, .inr q ∈ os → ∀ (r2 : List Int) (H' : Heap) (locs' : List Loc) (ls' : Array Slot) (kc' : List Value), zx_J D cl A b ex ad0 nL s (ρ ++ r2) q.2.1 q.2.2.1 q.2.2.2.1 q.2.2.2.2.1 H' locs' ls' kc' → W p l e R s m args below meth c H' locs' q.2.2.2.2.2.1 q.2.2.2.2.2.2 Q (F0 m q.1 ls' kc'))
def zx_TB (cc : ByteArray) (tbl : List (Nat × Instr × Nat)) : Prop := ∀ x ∈ tbl, decode cc x.1 = .ok (x.2.1, x.2.2) ∧ (zx_istab x.2.1 = true ∨ x.2.2 = zx_len x.2.1)
theorem zx_ex_nil {Y : zx_Y} {dt : List (List Nat)} {rmt : List (Nat × Nat)} {stp : Nat → Bool} {md : zx_MD} {f : zx_Fn} {n : Nat} {G : zx_G} {h : List zx_C} {lv : List (Nat × zx_V)} {k : Nat × Nat} {sk : List zx_V} : zx_ex Y dt rmt stp md f n [] G h lv k sk = none := by
  cases n
  · rfl
  · rfl
theorem zx_inv_len {i : Instr} {ix : Nat × Nat} (h : zx_inv i = some ix) : zx_istab i = false ∧ zx_len i = 3 := by
  cases i <;> first | exact ⟨rfl, rfl⟩ | cases h
theorem zx_retv_ok {b : Nat} {ex : List Nat} {ρ : List Int} {ad : List Nat} {i : Instr} {rt : Nat} {G : zx_G} {h : List zx_C} {sk : List zx_V} {kc : List Value} {os : List zx_Ou} (hr : zx_isret i = true) (hG : zx_ok ρ G) (hz : zx_retv i rt G h sk = some os) (h8 : zx_F2 (zx_R b ex ρ ad) sk kc) : zx_istab i = false ∧ zx_len i = 1 ∧ ∃ o, o ∈ os ∧ o.1 = G ∧ o.2.1 = h ∧ zx_end b ex ρ ad rt i o kc := by
  cases i <;> first | cases hr | skip
  · have hz : zx_rtA rt G h sk = some os := hz
    unfold zx_rtA at hz
    split at hz
    · rename_i q _
      split at hz
      · rename_i h3
        rcases kc with _ | ⟨x, kr⟩
        · exact h8.elim
        · rcases kr with _ | ⟨y, kr⟩
          · exact ⟨rfl, rfl, _, zx_one hz, rfl, rfl, Or.inr (Or.inr (Or.inl ⟨rfl, q, x, rfl, rfl, h8.1, h3⟩))⟩
          · exact h8.2.elim
      · cases hz
    · cases hz
  · have hz : zx_rtI rt G h sk = some os := hz
    unfold zx_rtI at hz
    split at hz
    · rename_i e1 _
      split at hz
      · rename_i h3
        rcases kc with _ | ⟨x, kr⟩
        · exact h8.elim
        · rcases kr with _ | ⟨y, kr⟩
          · obtain ⟨w, h4, h5⟩ := h8.1
            subst h4
            exact ⟨rfl, rfl, _, zx_one hz, rfl, rfl, Or.inr (Or.inl ⟨rfl, e1, w, rfl, rfl, h5, h3⟩)⟩
          · exact h8.2.elim
      · cases hz
    · cases hz
  · have hz : zx_rtL rt G h sk = some os := hz
    unfold zx_rtL at hz
    split at hz
    · split at hz
      · rename_i h3
        rcases kc with _ | ⟨x, kr⟩
        · exact h8.elim
        · rcases kr with _ | ⟨y, kr⟩
          · obtain ⟨w, h4⟩ := h8.1
            subst h4
            exact ⟨rfl, rfl, _, zx_one hz, rfl, rfl, Or.inr (Or.inr (Or.inr ⟨rfl, w, rfl, rfl, h3⟩))⟩
          · exact h8.2.elim
      · cases hz
    · cases hz
  · have hz : zx_rtV rt G h sk = some os := hz
    unfold zx_rtV at hz
    split at hz
    · split at hz
      · rename_i h3
        rcases kc with _ | ⟨x, kr⟩
        · exact ⟨rfl, rfl, _, zx_one hz, rfl, rfl, Or.inl ⟨rfl, rfl, rfl, h3⟩⟩
        · exact h8.elim
      · cases hz
    · cases hz
section ZXR
variable {p : Program} {l : Launch} {e : Env} {R : Room} {s : State} {m : MethodId} {args : Array Value} {below : List Frame} {meth : Method} {c : Code} {Q : State → Prop}
variable {D : va_G} {cl : List vw_C} {A : Nat → Prop} {b : Nat} {ex : List Nat} {ad0 : zx_A0} {nL : Nat}
variable {cc : ByteArray} {own : String} {Ts nw : List Jvm.Cond} {sts : List (String × String × String × Nat)} {Y : zx_Y} {aos : List String} {dt : List (List Nat)} {xs : Nat → Int32} {PR : zx_PR} {rmt : List (Nat × Nat)} {f : zx_Fn} {d : Nat} {md : zx_MD} {stp : Nat → Bool}
theorem zx_KO_mono {ρ r2 : List Int} {rt : Nat} {rm : Nat × Nat} {os os' : List zx_Os} (K : zx_KO p l e R s m args below meth c Q D cl A b ex ad0 nL ρ cc rt rm os) (hs : ∀ q ∈ os', q ∈ os) : zx_KO p l e R s m args below meth c Q D cl A b ex ad0 nL (ρ ++ r2) cc rt rm os' := by
  refine ⟨fun o ho r3 => ?_, fun q hq r3 => ?_⟩
  · rw [List.append_assoc]
    exact K.1 o (hs _ ho) (r2 ++ r3)
  · rw [List.append_assoc]
    exact K.2 q (hs _ hq) (r2 ++ r3)
theorem zx_SX_mono {M : zx_M} {ρ r2 : List Int} (S : zx_SX b xs A s M ρ) : zx_SX b xs A s M (ρ ++ r2) := by
  intro hx
  obtain ⟨L, i0, h1, h2, h3, h4, h5, h57, h6⟩ := S hx
  refine ⟨L, i0, h1, h2, h3, h4, ?_, ?_, fun j hj => ?_⟩
  · rw [List.getElem?_append_left (List.getElem?_eq_some_iff.mp h5).1]; exact h5
  · rw [List.getElem?_append_left (List.getElem?_eq_some_iff.mp h57).1]; exact h57
  · rw [List.getElem?_append_left (List.getElem?_eq_some_iff.mp (h6 j hj)).1]; exact h6 j hj
theorem zx_ex_ok (hYO : zx_YO Y ad0) (F : zx_FX p s m args meth c R cc own Ts nw cl A ex nL sts Y aos dt md.2.1) (harr : ∀ ty ∈ [FieldType.int, FieldType.byte, FieldType.boolean, FieldType.long], Jvm.Cond.arrayClass ty ∈ Ts) (hf : zx_FOK l cl Ts nw sts Y aos PR rmt d f) (hLK : zx_LK own cl Ts nw PR md.2.2.1) (hgw : Ts.all goodWord = true) (hnk : nw.all zx_nk = true) (hroom : d + 1 ≤ R.frames ∧ 100 * (d + 1) ≤ R.locals) (hml : c.maxLocals = nL) (htbl : zx_TB cc md.1) :
    ∀ (n : Nat) (x : Nat × Instr × Nat) (nx : List (Nat × Instr × Nat)) (ρ : List Int) (G : zx_G) (h : List zx_C) (lv : List (Nat × zx_V)) (k : Nat × Nat) (sk : List zx_V) (os : List zx_Os) (H : Heap) (locs : List Loc) (ls : Array Slot) (kc : List Value), zx_SX b xs A s md.2.1 ρ → (∀ y ∈ x :: nx, y ∈ md.1) → zx_J D cl A b ex ad0 nL s ρ G h lv sk H locs ls kc → zx_ex Y dt rmt stp md f n (x :: nx) G h lv k sk = some os → zx_KO p l e R s m args below meth c Q D cl A b ex ad0 nL ρ cc md.2.2.2 (zx_mR md.2.1) os → W p l e R s m args below meth c H locs k.1 k.2 Q (F0 m x.1 ls kc) := by
  intro n
  induction n with
  | zero => intro x nx ρ G h lv k sk os H locs ls kc _ _ _ hz; cases hz
  | succ n ih =>
    intro x nx ρ G h lv k sk os H locs ls kc hS hsub J hz K
    rw [zx_ex_s] at hz
    unfold zx_ex1 at hz
    obtain ⟨hG0, tys, ws, lc, B0⟩ := J
    obtain ⟨q0, hq0, r0, hG, B⟩ := zv_pre_ok (M := md.2.1) (pc := x.1) (i := x.2.1) hG0 B0
    obtain ⟨os0, hz0, hso0⟩ := zx_all_ok hz hq0
    replace hS := zx_SX_mono (r2 := r0) hS
    replace K := zx_KO_mono (r2 := r0) K hso0
    clear hz B0 hG0 hso0
    have hz : zx_ex0 Y dt rmt stp md f (zx_ex Y dt rmt stp md f n) x nx q0.1 q0.2.1 q0.2.2.1 k q0.2.2.2 = some os0 := hz0
    generalize ρ ++ r0 = ρ at hS K hG B
    generalize q0.1 = G at hz hG
    generalize q0.2.1 = h at hz B
    generalize q0.2.2.1 = lv at hz B
    generalize q0.2.2.2 = sk at hz B
    generalize os0 = os at hz K
    unfold zx_ex0 at hz
    obtain ⟨hd, hlen⟩ := htbl x (hsub x List.mem_cons_self)
    have hnx : ∀ y ∈ nx, y ∈ md.1 := fun y hy => hsub y (List.mem_cons_of_mem _ hy)
    -- the way on
    have go : ∀ (q : Nat × zx_T) (os' : List zx_Os) (r2 : List Int) (H' : Heap) (locs' : List Loc) (ls' : Array Slot) (kc' : List Value), zx_on stp md.1 nx (zx_ex Y dt rmt stp md f n) q = some os' → (∀ q ∈ os', q ∈ os) → zx_J D cl A b ex ad0 nL s (ρ ++ r2) q.2.1 q.2.2.1 q.2.2.2.1 q.2.2.2.2.1 H' locs' ls' kc' → W p l e R s m args below meth c H' locs' q.2.2.2.2.2.1 q.2.2.2.2.2.2 Q (F0 m q.1 ls' kc') := by
      intro q os' r2 H' locs' ls' kc' he hso J'
      unfold zx_on at he
      split at he
      · exact K.2 q (hso _ (zx_one he)) r2 H' locs' ls' kc' J'
      · obtain ⟨g1, g2⟩ := zx_sk_ok (t := q.1) hnx
        cases hc : zx_sk md.1 nx q.1 with
        | nil => rw [hc, zx_ex_nil] at he; cases he
        | cons y r =>
          rw [hc] at he g1
          have hy := g2 y r hc
          rw [← hy]
          exact ih y r (ρ ++ r2) _ _ _ _ _ os' H' locs' ls' kc' (zx_SX_mono hS) g1 J' he (zx_KO_mono K hso)
    split at hz
    · rename_i ix hix
      split at hz
      · rename_i lst hl
        have hd3 : decode cc x.1 = .ok (x.2.1, 3) := by
          rw [hd]
          have h3 : x.2.2 = 3 := by rw [hlen.resolve_left (fun q => by rw [(zx_inv_len hix).1] at q; cases q)]; exact (zx_inv_len hix).2
          rw [h3]
        exact zv_call_ok hYO F hf hLK hgw hnk hroom hml hix hd3 hG B hl (fun q hq r2 H' locs' kc' J' => by
          obtain ⟨G1, g1, g2⟩ := zv_pc_ok (n0 := G.length) J'.1
          obtain ⟨os', h1, h2⟩ := zx_all_ok hz (zv_pcl_mem g1 hq)
          exact go (x.1 + 3, G1, q.2.1, lv, q.2.2.1, q.2.2.2) os' r2 H' locs' ls kc' h1 h2 ⟨g2, J'.2⟩)
      · cases hz
    · rename_i hix
      split at hz
      · rename_i hret
        split at hz
        · rename_i hk
          split at hz
          · rename_i lo hlo
            cases hz
            unfold zx_le2 at hk
            rw [Bool.and_eq_true] at hk
            have hk1 := Nat.le_of_ble_eq_true hk.1
            have hk2 := Nat.le_of_ble_eq_true hk.2
            obtain ⟨b1, b2, b3, ⟨b4, b40⟩, b5, b6, b7, b8⟩ := id B
            have hG0 : zx_ok (ρ ++ []) G := by rw [List.append_nil]; exact hG
            have b50 : zx_F2 (fun c q => zx_RC cl b ex (ρ ++ []) (zx_as ws) tys c q.2) h ws := by rw [List.append_nil]; exact b5
            obtain ⟨r0, r1, o, r2, r3, r4, r5⟩ := zx_retv_ok (b := b) (ex := ex) (ρ := ρ ++ []) (ad := zx_as ws) hret hG0 hlo (by rw [List.append_nil]; exact b8)
            have hd1 : decode cc x.1 = .ok (x.2.1, 1) := by rw [hd, hlen.resolve_left (fun q => by rw [r0] at q; cases q), r1]
            exact K.1 o (zx_lefts_mem r2) [] H locs ls kc x.1 k x.2.1 tys ws (by rw [r3]; exact hG0) b1 b2 b3 b4 b40 (by rw [r4]; exact b50) hk1 hk2 hd1 r5
          · cases hz
        · cases hz
      · split at hz
        case isFalse => cases hz
        rename_i hwK
        replace hwK : zx_wkk ad0.2 x.2.1 sk = true := by rw [hYO.1]; exact zx_wK_ok hwK
        split at hz
        · rename_i z hzs
          exact zx_step_ok hwK F hS harr hd hlen hG B hzs (fun q hq r2 H' locs' ls' kc' J' => by
            obtain ⟨G1, g1, g2⟩ := zv_post_mem (i := x.2.1) (sk := sk) J'.1 hq
            obtain ⟨os', h1, h2⟩ := zx_all_ok hz g1
            exact go (q.1, G1, q.2.2) os' r2 H' locs' ls' kc' h1 h2 ⟨g2, J'.2⟩)
        · cases hz
end ZXR
/-! the contract of a run -/
def zx_rtok (ret : Option FieldType) (rt : Nat) : Prop := match ret with
  | none => rt = 4
  | some ty => zx_tag ty = rt ∧ rt ≠ 4 ∧ rt ≠ 9
/-- the tables of a method hold, and go with it -/
def zx_PK (cl : List vw_C) (Ts nw : List Jvm.Cond) (sts : List (String × String × String × Nat)) (aos : List String) (PR : zx_PR) (rmt : List (Nat × Nat)) (P : List (Option zx_MD)) : Prop :=
  ∀ (j : Nat) (md : zx_MD) (y : MethodName) (cc : ByteArray) (maxL : Nat) (ret : Option FieldType) (rm : Nat × Nat), P[j]? = some (some md) → PR[j]? = some (y, cc, maxL, ret) → rmt[j]? = some rm →
    plainName y.cls = true ∧ zx_mR md.2.1 = rm ∧ zx_mV md.2.1 = maxL ∧ zx_mX md.2.1 = false ∧ (zx_mB md.2.1 = true → y.name = "<init>") ∧ zx_MK y.cls cl Ts nw sts aos md.2.1 ∧ zx_LK y.cls cl Ts nw PR md.2.2.1 ∧ zx_TB cc md.1 ∧ zx_rtok ret md.2.2.2 ∧ (∃ x nx, md.1 = x :: nx ∧ x.1 = 0)
theorem zx_words {b : Nat} {ex : List Nat} {ρ : List Int} {ad : List Nat} : ∀ {as : List zx_V} {av : List Value}, zx_F2 (zx_R b ex ρ ad) as av → (lg_sl av).length = zx_cats as
  | [], [], _ => rfl
  | v :: r, x :: m, h => by
    show (lg_sl (x :: m)).length = zx_cat v + zx_cats r
    have h1 : lg_sl (x :: m) = (if x.category = 2 then [Slot.val x, Slot.second] else [Slot.val x]) ++ lg_sl m := by
      unfold lg_sl; rw [List.flatMap_cons]
    rw [h1, List.length_append, zx_words h.2, ← zx_R_cat h.1]
    rcases lv_cat x with g | g <;> simp [g]
  | [], _ :: _, h => h.elim
  | _ :: _, [], h => h.elim
theorem zx_fit4 {G : zx_G} {e : zx_L} (h : zx_fit G 4 (.inl e) = true) : False := by
  unfold zx_fit at h
  cases hq : zx_rng G e with
  | none => simp [hq] at h
  | some q => simp [hq] at h
end
