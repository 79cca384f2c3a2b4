noncomputable section
/-! zx: the tables hold -/
def zx_chkF (own : String) (ini : Bool) (i : Nat) (q : Nat × (Nat × Nat × Nat × Bool)) : Bool := match vwCl[q.2.1]? with
  | some (_, T, N) => decide (q.2.2.1 < N) && (zx_w i (.fieldLink own q.1 (T q.2.2.1).1 (T q.2.2.1).2.1 (T q.2.2.1).2.2.1) && ((match parseFieldDescriptor (T q.2.2.1).2.2.1 with
    | some ty => zx_tag ty == q.2.2.2.1
    | none => false) && (((T q.2.2.1).2.2.2 == q.2.2.2.2) && (!q.2.2.2.2 || (!ini || (T q.2.2.1).1 == own)))))
  | none => false
def zx_chkS (own : String) (i : Nat) (q : Nat × Nat) : Bool := zx_sts.any (fun t => t.2.2.2 == q.2 && (zx_w i (.fieldLink own q.1 t.1 t.2.1 t.2.2.1) || decide (Jvm.Cond.fieldLinkNest own q.1 t.1 t.2.1 t.2.2.1 "OperaHouse" ∈ zx_nw)))
def zx_chkC (own : String) (p : List Nat) (q : Nat × Nat) : Bool := match vwCl[q.2]? with
  | some (C, _, N) => if q.1 < 65536 then zx_w (p.getD 0 0) (.classLink own q.1 C) && (zx_w (p.getD 1 0) (.instantiable C N) && zx_w (p.getD 2 0) (.initialized C)) else zx_w (p.getD 0 0) (.classLink own (q.1 - 65536) C) && decide (C ∈ zx_aos)
  | none => false
def zx_chkI (own : String) (i : Nat) (q : Nat × Int) : Bool := decide (-2147483648 ≤ q.2) && (decide (q.2 ≤ 2147483647) && zx_w i (.constant own q.1 (Int32.ofInt q.2)))
def zx_chkL (own : String) (i : Nat) (q : Nat × Int64) : Bool := zx_w i (.constantLong own q.1 q.2)
def zx_all3 {α : Type} (f : List Nat → α → Bool) : List (List Nat) → List α → Bool
  | _, [] => true
  | [], _ :: _ => false
  | i :: p, a :: r => f i a && zx_all3 f p r
theorem zx_all3_ok {α : Type} {f : List Nat → α → Bool} : ∀ {p : List (List Nat)} {r : List α} {a : α}, zx_all3 f p r = true → a ∈ r → ∃ i, f i a = true
  | _, [], _, _, h => nomatch h
  | [], _ :: _, _, h, _ => nomatch h
  | i :: p, b :: r, a, h, ha => by
    rw [zx_all3, Bool.and_eq_true] at h
    rcases List.mem_cons.mp ha with e | e
    · subst e; exact ⟨i, h.1⟩
    · exact zx_all3_ok h.2 e
theorem zx_has_mem {i : Nat} : ∀ {l : List Nat}, zx_has l i = true → i ∈ l
  | [], h => nomatch h
  | q :: r, h => by
    rw [zx_has] at h
    by_cases hq : q = i
    · subst hq; exact List.mem_cons_self
    · rw [if_neg hq] at h
      exact List.mem_cons_of_mem _ (zx_has_mem h)
def zx_chkN (own : String) (p : List Nat) (ix kd : Nat) : Bool := match kd with
  | 6 => zx_w (p.getD 0 0) (.methodLink own ix Lib.Math.max.name) && (zx_w (p.getD 1 0) (.static Lib.Math.max.name) && (zx_w (p.getD 2 0) (.initialized "java/lang/Math") && zx_w (p.getD 3 0) (.code Lib.Math.max.name Lib.Math.max.code 2 (some .int))))
  | 7 => zx_w (p.getD 0 0) (.methodLink own ix Lib.Math.min.name) && (zx_w (p.getD 1 0) (.static Lib.Math.min.name) && (zx_w (p.getD 2 0) (.initialized "java/lang/Math") && zx_w (p.getD 3 0) (.code Lib.Math.min.name Lib.Math.min.code 2 (some .int))))
  | 8 => zx_w (p.getD 0 0) (.methodLink own ix Lib.Math.abs.name) && (zx_w (p.getD 1 0) (.static Lib.Math.abs.name) && (zx_w (p.getD 2 0) (.initialized "java/lang/Math") && zx_w (p.getD 3 0) (.code Lib.Math.abs.name Lib.Math.abs.code 1 (some .int))))
  | 9 => zx_w (p.getD 0 0) (.methodLink own ix arraycopyName) && (zx_w (p.getD 1 0) (.native arraycopyName) && (zx_w (p.getD 2 0) (.static arraycopyName) && zx_w (p.getD 3 0) (.initialized "java/lang/System")))
  | _ => false
theorem zx_chkN_ok {own : String} {p : List Nat} {ix kd : Nat} (h : zx_chkN own p ix kd = true) : zv_NW own zx_Ts ix kd := by
  unfold zx_chkN at h
  split at h
  · simp only [Bool.and_eq_true] at h
    exact ⟨zx_w_ok h.1, zx_w_ok h.2.1, zx_w_ok h.2.2.1, zx_w_ok h.2.2.2⟩
  · simp only [Bool.and_eq_true] at h
    exact ⟨zx_w_ok h.1, zx_w_ok h.2.1, zx_w_ok h.2.2.1, zx_w_ok h.2.2.2⟩
  · simp only [Bool.and_eq_true] at h
    exact ⟨zx_w_ok h.1, zx_w_ok h.2.1, zx_w_ok h.2.2.1, zx_w_ok h.2.2.2⟩
  · simp only [Bool.and_eq_true] at h
    exact ⟨zx_w_ok h.1, zx_w_ok h.2.1, zx_w_ok h.2.2.1, zx_w_ok h.2.2.2⟩
  · cases h
def zx_chkK (own : String) (p : List Nat) (q : Nat × (Nat × Nat × Nat × Nat)) : Bool :=
  if q.2.1 = 5 then zx_w (p.getD 0 0) (.methodLink own q.1 objectInit) && (zx_w (p.getD 1 0) (.instanceMethod objectInit) && zx_w (p.getD 2 0) (.code objectInit ⟨#[0xb1]⟩ 1 none)) else if 6 ≤ q.2.1 then zx_chkN own p q.1 q.2.1 else match zx_PRt[q.2.2.1]? with
  | some (y, cc, maxL, ret) => decide (maxL ≤ 80) && (true && (zx_w (p.getD 1 0) (.initialized y.cls) && (decide (y.cls ≠ "java/lang/invoke/MethodHandle") && (decide (y.cls ≠ "java/lang/invoke/VarHandle") && (match q.2.1 with
    | 0 => zx_w (p.getD 2 0) (.methodLink own q.1 y) && (zx_w (p.getD 3 0) (.instanceMethod y) && (zx_w (p.getD 4 0) (.selects y.cls y y) && (decide ((parseMethodDescriptor y.desc).map (fun d => d.parameters.length) = some (q.2.2.2.1 - 1)) && ((decide (q.2.2.2.2 = 999) && decide (y.cls = zx_fc)) || match vwCl[q.2.2.2.2]? with
      | some (C, _, _) => decide (C = y.cls)
      | none => false))))
    | 1 => zx_w (p.getD 2 0) (.methodLink own q.1 y) && (zx_w (p.getD 3 0) (.static y) && decide ((parseMethodDescriptor y.desc).map (fun d => d.parameters.length) = some q.2.2.2.1))
    | 2 => zx_w (p.getD 2 0) (.methodLink own q.1 y) && (zx_w (p.getD 3 0) (.instanceMethod y) && (decide (y.name = "<init>") && (decide (ret = none) && decide ((parseMethodDescriptor y.desc).map (fun d => d.parameters.length) = some (q.2.2.2.1 - 1)))))
    | 3 => decide (Jvm.Cond.methodLinkNest own q.1 y "OperaHouse" ∈ zx_nw) && (zx_w (p.getD 2 0) (.static y) && decide ((parseMethodDescriptor y.desc).map (fun d => d.parameters.length) = some q.2.2.2.1))
    | 4 => decide (Jvm.Cond.methodLinkNest own q.1 y "OperaHouse" ∈ zx_nw) && (zx_w (p.getD 2 0) (.instanceMethod y) && (decide (y.name = "<init>") && (decide (ret = none) && decide ((parseMethodDescriptor y.desc).map (fun d => d.parameters.length) = some (q.2.2.2.1 - 1)))))
    | _ => false)))))
  | none => false
def zx_T1 (own : String) (pT : List Nat) (q : Nat × (Bool × Int × Int)) : Bool := match zx_fk[q.2.2.1.toNat]? with
  | some (o, n, d) => pT.any (fun i => zx_w i (.fieldLink own (q.1 - 500000) o n d))
  | none => false
def zx_mkall (own : String) (F : List (Nat × (Nat × Nat × Nat × Bool))) (pF : List Nat) (ini : Bool) (S : List (Nat × Nat)) (pS : List Nat) (C : List (Nat × Nat)) (pC : List (List Nat)) (Ic : List (Nat × Int)) (pI : List Nat) (L : List (Nat × Int64)) (pL : List Nat) : Bool :=
  zx_all2 (zx_chkF own ini) pF F && (zx_all2 (zx_chkS own) pS S && (zx_all3 (zx_chkC own) pC C && (zx_all2 (zx_chkI own) pI Ic && zx_all2 (zx_chkL own) pL L)))
theorem zx_MK_of {own : String} {F : List (Nat × (Nat × Nat × Nat × Bool))} {pF : List Nat} {ini : Bool} {S : List (Nat × Nat)} {pS : List Nat} {C : List (Nat × Nat)} {pC : List (List Nat)} {Ic : List (Nat × Int)} {pI : List Nat} {L : List (Nat × Int64)} {pL : List Nat} {Ll : List Nat} {pT : List Nat} {Nl : List (Nat × (Bool × Int × Int))} {mv : Nat} {rm : Nat × Nat} {xb : Bool} (h : zx_mkall own F pF ini S pS C pC Ic pI L pL = true) (hL : Ll = L.map Prod.fst) (hN : Nl.all (fun q => Nat.blt q.1 500000 || zx_T1 own pT q) = true) : zx_MK own vwCl zx_Ts zx_nw zx_sts zx_aos (zx_fd F, zx_fd S, zx_fd C, zx_fd Ic, zx_has Ll, zx_fd Nl, mv, ini, rm, xb) := by
  unfold zx_mkall at h
  simp only [Bool.and_eq_true] at h
  obtain ⟨h1, h2, h3, h4, h5⟩ := h
  refine ⟨fun ix q hq => ?_, fun ix id hq => ?_, fun ix ci hq => ?_, fun ix n hq => ?_, fun ix hq => ?_, fun ix f key k hq => ?_⟩
  · obtain ⟨i, hi⟩ := zx_all2_ok h1 (zx_fd_mem hq)
    unfold zx_chkF at hi
    dsimp only at hi
    split at hi
    · rename_i C0 T N0 hc
      simp only [Bool.and_eq_true, decide_eq_true_iff] at hi
      obtain ⟨g1, g2, g3, g4, g5⟩ := hi
      split at g3
      · rename_i ty hty
        refine ⟨C0, T, N0, ty, hc, g1, zx_w_ok g2, hty, by simpa using g3, by simpa using g4, fun hf => ?_⟩
        rw [hf] at g5
        cases ini with
        | false => exact Or.inr rfl
        | true => exact Or.inl (by simpa using g5)
      · cases g3
    · cases hi
  · obtain ⟨i, hi⟩ := zx_all2_ok h2 (zx_fd_mem hq)
    unfold zx_chkS at hi
    obtain ⟨t, t1, t2⟩ := List.any_eq_true.mp hi
    simp only [Bool.and_eq_true, Bool.or_eq_true, beq_iff_eq, decide_eq_true_iff] at t2
    refine ⟨t, t1, t2.1, ?_⟩
    rcases t2.2 with g | g
    · exact Or.inl (zx_w_ok g)
    · exact Or.inr ⟨_, g⟩
  · obtain ⟨i, hi⟩ := zx_all3_ok h3 (zx_fd_mem hq)
    unfold zx_chkC at hi
    dsimp only at hi
    split at hi
    · rename_i C0 T N0 hc
      refine ⟨C0, T, N0, hc, fun hx => ?_, fun hx => ?_⟩
      · rw [if_pos hx] at hi
        simp only [Bool.and_eq_true] at hi
        exact ⟨zx_w_ok hi.1, zx_w_ok hi.2.1, zx_w_ok hi.2.2⟩
      · rw [if_neg (by omega)] at hi
        simp only [Bool.and_eq_true, decide_eq_true_iff] at hi
        exact ⟨zx_w_ok hi.1, hi.2⟩
    · cases hi
  · obtain ⟨i, hi⟩ := zx_all2_ok h4 (zx_fd_mem hq)
    unfold zx_chkI at hi
    simp only [Bool.and_eq_true, decide_eq_true_iff] at hi
    exact ⟨Int32.ofInt n, zx_ofI hi.1 hi.2.1, zx_w_ok hi.2.2⟩
  · have hm : ix ∈ L.map Prod.fst := by rw [← hL]; exact zx_has_mem hq
    obtain ⟨q, q1, q2⟩ := List.mem_map.mp hm
    obtain ⟨i, hi⟩ := zx_all2_ok h5 q1
    unfold zx_chkL at hi
    rw [q2] at hi
    exact ⟨q.2, zx_w_ok hi⟩
  · have h9 := List.all_eq_true.mp hN _ (zx_fd_mem hq)
    rw [Bool.or_eq_true] at h9
    rcases h9 with h9 | h9
    · rw [Nat.blt_eq] at h9
      omega
    · unfold zx_T1 at h9
      split at h9
      · rename_i o n d hk
        obtain ⟨i, i1, i2⟩ := List.any_eq_true.mp h9
        have i3 := zx_w_ok i2
        rw [show 500000 + ix - 500000 = ix by omega] at i3
        exact ⟨o, n, d, o, hk, i3, fun _ _ h => h⟩
      · cases h9
theorem zx_LK_of {own : String} (hcode : ∀ (j : Nat) (y : MethodName) (cc : ByteArray) (maxL : Nat) (ret : Option FieldType), zx_PRt[j]? = some (y, cc, maxL, ret) → Jvm.Cond.code y cc maxL ret ∈ zx_Ts) {K : List (Nat × (Nat × Nat × Nat × Nat))} {pK : List (List Nat)} (h : zx_all3 (zx_chkK own) pK K = true) : zx_LK own vwCl zx_Ts zx_nw zx_PRt (zx_fd K) := by
  refine ⟨by decide, fun ix q hq => ?_⟩
  obtain ⟨p, hp⟩ := zx_all3_ok h (zx_fd_mem hq)
  unfold zx_chkK at hp
  dsimp only at hp
  split at hp
  · rename_i h5
    simp only [Bool.and_eq_true] at hp
    exact ⟨fun _ => ⟨zx_w_ok hp.1, zx_w_ok hp.2.1, zx_w_ok hp.2.2⟩, fun g => absurd h5 (by omega), fun g => absurd h5 (by omega)⟩
  · rename_i h5
    split at hp
    · rename_i h6
      exact ⟨fun g => absurd g h5, fun g => absurd h6 (by omega), fun _ => zx_chkN_ok hp⟩
    rename_i h6
    refine ⟨fun g => absurd g h5, fun _ => ?_, fun g => absurd g h6⟩
    split at hp
    · rename_i y cc maxL ret hpr
      simp only [Bool.and_eq_true, decide_eq_true_iff] at hp
      obtain ⟨g1, g2, g3, g4, g5, g6⟩ := hp
      refine ⟨y, cc, maxL, ret, hpr, g1, hcode _ _ _ _ _ hpr, zx_w_ok g3, g4, g5, fun g => ?_, fun g => ?_, fun g => ?_, fun g => ?_, fun g => ?_⟩
      · rw [g] at g6
        simp only [Bool.and_eq_true, decide_eq_true_iff] at g6
        obtain ⟨k1, k2, k3, k4, k5⟩ := g6
        rw [Bool.or_eq_true, Bool.and_eq_true, decide_eq_true_iff, decide_eq_true_iff] at k5
        rcases k5 with k5 | k5
        · exact ⟨zx_w_ok k1, zx_w_ok k2, zx_w_ok k3, k4, Or.inl k5⟩
        split at k5
        · rename_i C0 T N0 hc
          have k5 : C0 = y.cls := by simpa using k5
          exact ⟨zx_w_ok k1, zx_w_ok k2, zx_w_ok k3, k4, Or.inr ⟨T, N0, by rw [hc, k5]⟩⟩
        · cases k5
      · rw [g] at g6
        simp only [Bool.and_eq_true, decide_eq_true_iff] at g6
        exact ⟨zx_w_ok g6.1, zx_w_ok g6.2.1, g6.2.2⟩
      · rw [g] at g6
        simp only [Bool.and_eq_true, decide_eq_true_iff] at g6
        exact ⟨zx_w_ok g6.1, zx_w_ok g6.2.1, g6.2.2.1, g6.2.2.2.1, g6.2.2.2.2⟩
      · rw [g] at g6
        simp only [Bool.and_eq_true, decide_eq_true_iff] at g6
        exact ⟨_, g6.1, zx_w_ok g6.2.1, g6.2.2⟩
      · rw [g] at g6
        simp only [Bool.and_eq_true, decide_eq_true_iff] at g6
        exact ⟨_, g6.1, zx_w_ok g6.2.1, g6.2.2.1, g6.2.2.2.1, g6.2.2.2.2⟩
    · cases hp
theorem zx_TB_of {cc : ByteArray} {tbl : List (Nat × Instr × Nat)} (h : zx_tbk cc tbl = true) : zx_TB cc tbl := by
  intro x hx
  have h1 := List.all_eq_true.mp h x hx
  simp only [Bool.and_eq_true, Bool.or_eq_true, decide_eq_true_iff, beq_iff_eq] at h1
  exact h1
end
