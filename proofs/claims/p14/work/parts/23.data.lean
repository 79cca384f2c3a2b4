noncomputable section
/-! zx: this program's tables -/
def zx_Ts : List Jvm.Cond := lw_tbl.filter goodWord
def zx_chunk (c : Nat) : List Jvm.Cond := match c with
  | 0 => k2_sels lw_privs
  | 1 => tables_1_1
  | 2 => tables_1_2
  | 3 => tables_1_3
  | 4 => tables_1_4
  | 5 => tables_1_5
  | 6 => tables_1_6
  | 7 => tables_1_7
  | 8 => tables_1_8
  | 9 => tables_1_9
  | _ => []
theorem zx_chunk_ok {c : Nat} {w : Jvm.Cond} (h : w ∈ zx_chunk c) : w ∈ lw_tbl := by
  unfold zx_chunk at h
  split at h
  · exact List.mem_append_left _ h
  · exact List.mem_append_right _ (show _ ∈ tables_1 from List.mem_append_left _ h)
  · exact List.mem_append_right _ (show _ ∈ tables_1 from List.mem_append_right _ (List.mem_append_left _ h))
  · exact List.mem_append_right _ (show _ ∈ tables_1 from List.mem_append_right _ (List.mem_append_right _ (List.mem_append_left _ h)))
  · exact List.mem_append_right _ (show _ ∈ tables_1 from List.mem_append_right _ (List.mem_append_right _ (List.mem_append_right _ (List.mem_append_left _ h))))
  · exact List.mem_append_right _ (show _ ∈ tables_1 from List.mem_append_right _ (List.mem_append_right _ (List.mem_append_right _ (List.mem_append_right _ (List.mem_append_left _ h)))))
  · exact List.mem_append_right _ (show _ ∈ tables_1 from List.mem_append_right _ (List.mem_append_right _ (List.mem_append_right _ (List.mem_append_right _ (List.mem_append_right _ (List.mem_append_left _ h))))))
  · exact List.mem_append_right _ (show _ ∈ tables_1 from List.mem_append_right _ (List.mem_append_right _ (List.mem_append_right _ (List.mem_append_right _ (List.mem_append_right _ (List.mem_append_right _ (List.mem_append_left _ h)))))))
  · exact List.mem_append_right _ (show _ ∈ tables_1 from List.mem_append_right _ (List.mem_append_right _ (List.mem_append_right _ (List.mem_append_right _ (List.mem_append_right _ (List.mem_append_right _ (List.mem_append_right _ (List.mem_append_left _ h))))))))
  · exact List.mem_append_right _ (show _ ∈ tables_1 from List.mem_append_right _ (List.mem_append_right _ (List.mem_append_right _ (List.mem_append_right _ (List.mem_append_right _ (List.mem_append_right _ (List.mem_append_right _ (List.mem_append_right _ (h)))))))))
  · cases h
def zx_w (i : Nat) (w : Jvm.Cond) : Bool := decide ((zx_chunk (i / 1000))[i % 1000]? = some w) && goodWord w
theorem zx_w_ok {i : Nat} {w : Jvm.Cond} (h : zx_w i w = true) : w ∈ zx_Ts := by
  unfold zx_w at h
  rw [Bool.and_eq_true, decide_eq_true_iff] at h
  exact List.mem_filter.mpr ⟨zx_chunk_ok (List.mem_of_getElem? h.1), h.2⟩
def zx_has : List Nat → Nat → Bool
  | [], _ => false
  | q :: r, i => if q = i then true else zx_has r i
def zx_all2 {α : Type} (f : Nat → α → Bool) : List Nat → List α → Bool
  | _, [] => true
  | [], _ :: _ => false
  | i :: p, a :: r => f i a && zx_all2 f p r
theorem zx_all2_ok {α : Type} {f : Nat → α → Bool} : ∀ {p : List Nat} {r : List α} {a : α}, zx_all2 f p r = true → a ∈ r → ∃ i, f i a = true
  | _, [], _, _, h => nomatch h
  | [], _ :: _, _, h, _ => nomatch h
  | i :: p, b :: r, a, h, ha => by
    rw [zx_all2, Bool.and_eq_true] at h
    rcases List.mem_cons.mp ha with e | e
    · subst e; exact ⟨i, h.1⟩
    · exact zx_all2_ok h.2 e
def zx_sts : List (String × String × String × Nat) := [("OperaHouse$Token", "REST", "LOperaHouse$Token;", 8), ("OperaHouse$Token", "DAY", "LOperaHouse$Token;", 9), ("OperaHouse$Token", "WEEK", "LOperaHouse$Token;", 10), ("OperaHouse$Token", "VOICE", "LOperaHouse$Token;", 11), ("OperaHouse$Token", "LEAVE", "LOperaHouse$Token;", 12), ("OperaHouse$Token", "TO", "LOperaHouse$Token;", 13), ("OperaHouse$Token", "FEE", "LOperaHouse$Token;", 14), ("OperaHouse$Token", "IF", "LOperaHouse$Token;", 15), ("OperaHouse$Token", "OR", "LOperaHouse$Token;", 16), ("OperaHouse$Token", "AND", "LOperaHouse$Token;", 17), ("OperaHouse$Token", "NOT", "LOperaHouse$Token;", 18), ("OperaHouse$Token", "IN_ROOM", "LOperaHouse$Token;", 19), ("OperaHouse$Token", "AT_MARKS", "LOperaHouse$Token;", 20), ("OperaHouse$Token", "AT_FULL", "LOperaHouse$Token;", 21), ("OperaHouse$Token", "AT_NIGHT", "LOperaHouse$Token;", 22), ("OperaHouse$Token", "LATE", "LOperaHouse$Token;", 23), ("OperaHouse$Token", "COVER", "LOperaHouse$Token;", 24), ("OperaHouse$Token", "INSTEAD", "LOperaHouse$Token;", 25), ("OperaHouse$Token", "HOURS", "LOperaHouse$Token;", 26), ("OperaHouse$Token", "NTH", "LOperaHouse$Token;", 27), ("OperaHouse$Token", "OVER", "LOperaHouse$Token;", 28), ("OperaHouse$Token", "LESS", "LOperaHouse$Token;", 29), ("OperaHouse$Token", "SAME", "LOperaHouse$Token;", 30), ("OperaHouse$Token", "MORE", "LOperaHouse$Token;", 31), ("OperaHouse$Token", "STOP", "LOperaHouse$Token;", 32), ("OperaHouse$Token", "OPEN", "LOperaHouse$Token;", 33), ("OperaHouse$Token", "CLOSE", "LOperaHouse$Token;", 34), ("OperaHouse$Token", "NUMBER", "LOperaHouse$Token;", 35), ("OperaHouse$Token", "FINISH", "LOperaHouse$Token;", 36), ("OperaHouse$Token", "BAD", "LOperaHouse$Token;", 37), ("OperaHouse", "NEAR", "[I", 1), ("OperaHouse", "WORTH", "[I", 2), ("OperaHouse", "LIMIT_LEAST", "[I", 3), ("OperaHouse", "LIMIT_MOST", "[I", 4)]
/-- how many answers wait behind so many steps -/
def zx_d1 (d v : Int) : Option Int := if v = 20 then (if 1 ≤ d then some d else none) else if v = 21 ∨ v = 22 then (if 2 ≤ d then some (d - 1) else none) else if 0 ≤ v ∧ v ≤ 9 then (if 0 ≤ d ∧ d ≤ 62 then some (d + 1) else none) else none
def zx_dp (f : Nat → Int32) (lo : Nat) : Nat → Option Int
  | 0 => some 0
  | m + 1 => match zx_dp f lo m with
    | some d => zx_d1 d (f (lo + m)).toInt
    | none => none
/-- the conditions of all fees are sound -/
def zx_PFr (fS fF fT fN : Nat → Int32) : Prop := ∀ s k : Nat, s < 20 → 8 * s ≤ k → (k : Int) < 8 * s + (fN s).toInt → 0 ≤ (fF k).toInt ∧ (fT k).toInt ≤ 100 ∧ ∃ d, zx_dp fS (100 * s + (fF k).toInt.toNat) ((fT k).toInt - (fF k).toInt).toNat = some d
def zx_PF (ws : va_W) : Prop := ∃ (a1 a2 a3 a4 : Nat) (c1 c2 c3 c4 : ClassId) (n1 n2 n3 n4 : Nat) (fS fF fT fN : Nat → Int32), ws[24]? = some (a1, .inl (c1, n1, .inl fS)) ∧ ws[22]? = some (a2, .inl (c2, n2, .inl fF)) ∧ ws[23]? = some (a3, .inl (c3, n3, .inl fT)) ∧ ws[20]? = some (a4, .inl (c4, n4, .inl fN)) ∧ zx_PFr fS fF fT fN
def zx_Yt : zx_Y := ([(1, [1, 2, 3, 0, 4, (-1), 0, (-1), (-1), 0, 4, (-1), 1, 3, (-1)]), (2, [1, 5, 25, 125]), (3, [0, 1, 0, 1]), (4, [72, 24, 7, 999]), (8, [1, 0]), (9, [1, 1]), (10, [1, 2]), (11, [1, 3]), (12, [0, 0]), (13, [0, 0]), (14, [0, 0]), (15, [0, 0]), (16, [0, 0]), (17, [0, 0]), (18, [0, 0]), (19, [2, 0]), (20, [2, 1]), (21, [2, 2]), (22, [2, 3]), (23, [2, 4]), (24, [2, 5]), (25, [2, 6]), (26, [3, 7]), (27, [3, 8]), (28, [3, 9]), (29, [4, 0]), (30, [4, 1]), (31, [4, 2]), (32, [0, 0]), (33, [0, 0]), (34, [0, 0]), (35, [0, 0]), (36, [0, 0]), (37, [0, 0])], [], zx_PF)
def zx_aos : List String := ["OperaHouse$Opera", "OperaHouse$Contract"]
def zx_dt : List (List Nat) := [[0, 3, 3, 3, 3, 3, 3, 3],
  [3, 3, 3, 3, 0, 0, 0, 0, 0],
  [0, 0, 0, 0, 3, 3, 3, 3, 3, 3, 3, 3],
  [3, 3, 3, 3, 3, 3],
  [3, 3, 3, 3, 3, 3, 3, 3, 0, 0, 3, 0, 1],
  [0, 3, 3, 3, 3, 0, 3, 3, 3, 0, 3, 3, 3, 3, 3, 3, 3, 3, 3],
  [0, 0, 0, 0, 1, 3, 3, 3, 3, 3],
  [3, 0, 0, 0, 0, 0, 3, 3, 0],
  [3, 3, 0],
  [3, 3, 3, 3, 3, 3, 3, 0, 3],
  [3, 3, 3, 3, 3, 3, 3, 3, 3, 3, 0, 0, 0, 0],
  [0, 3, 0, 0, 0, 0, 0, 3, 3, 3, 3, 3, 3, 3, 3, 3, 3, 3, 3, 3, 3, 0, 0, 0, 0, 3, 3, 3, 3, 3, 3, 3, 3, 3, 3, 3, 3, 0, 0, 0, 0, 0, 0, 0, 0, 0, 0, 2, 3, 3, 3, 3, 3, 3, 3, 3, 3, 3, 3, 3, 3, 3, 3, 3, 3, 3, 3, 0, 0, 0, 0, 0, 3, 3, 3, 3, 3, 3, 0, 3, 3, 3, 3, 3, 3, 3, 3, 3, 0, 0, 3, 3, 3, 3, 3, 3, 3, 0, 0, 0, 0]]
def zx_nw : List Jvm.Cond := [.methodLinkNest "OperaHouse$House" 44 ⟨"OperaHouse$Opera", "<init>", "()V"⟩ "OperaHouse",
  .methodLinkNest "OperaHouse" 25 ⟨"OperaHouse$Calls", "<init>", "()V"⟩ "OperaHouse",
  .methodLinkNest "OperaHouse" 32 ⟨"OperaHouse$Ledger", "<init>", "()V"⟩ "OperaHouse",
  .methodLinkNest "OperaHouse" 39 ⟨"OperaHouse$Wagons", "<init>", "()V"⟩ "OperaHouse",
  .methodLinkNest "OperaHouse$Opera" 35 ⟨"OperaHouse", "within", "(III)Z"⟩ "OperaHouse",
  .fieldLinkNest "OperaHouse$Reader" 82 "OperaHouse" "LIMIT_LEAST" "[I" "OperaHouse",
  .fieldLinkNest "OperaHouse$Reader" 85 "OperaHouse" "LIMIT_MOST" "[I" "OperaHouse",
  .methodLinkNest "OperaHouse$Reader" 162 ⟨"OperaHouse", "within", "(III)Z"⟩ "OperaHouse",
  .methodLinkNest "OperaHouse$Contract" 43 ⟨"OperaHouse", "daysBetween", "(II)I"⟩ "OperaHouse",
  .methodLinkNest "OperaHouse$Ledger" 68 ⟨"OperaHouse", "daysBetween", "(II)I"⟩ "OperaHouse",
  .fieldLinkNest "OperaHouse$Wagons" 37 "OperaHouse" "WORTH" "[I" "OperaHouse",
  .fieldLinkNest "OperaHouse$Wagons" 34 "OperaHouse" "NEAR" "[I" "OperaHouse",
  .methodLinkNest "OperaHouse$Layer" 51 ⟨"OperaHouse", "within", "(III)Z"⟩ "OperaHouse"]
def zx_PRt : zx_PR := [(⟨"OperaHouse", "<init>", "()V"⟩, prog_1_method_1_code, 1, none),
  (⟨"OperaHouse$House", "<init>", "()V"⟩, prog_4_method_1_code, 2, none),
  (⟨"OperaHouse$Contract", "<init>", "()V"⟩, prog_3_method_1_code, 1, none),
  (⟨"OperaHouse$Contract", "blank", "()V"⟩, prog_3_method_2_code, 1, none),
  (⟨"OperaHouse$Opera", "<init>", "()V"⟩, prog_8_method_1_code, 1, none),
  (⟨"OperaHouse$Calls", "<init>", "()V"⟩, prog_2_method_1_code, 1, none),
  (⟨"OperaHouse$Ledger", "<init>", "()V"⟩, prog_7_method_1_code, 1, none),
  (⟨"OperaHouse$Wagons", "<init>", "()V"⟩, prog_11_method_1_code, 1, none),
  (⟨"OperaHouse$Reader", "<init>", "([I)V"⟩, prog_9_method_1_code, 2, none),
  (⟨"OperaHouse$Walk", "<init>", "(LOperaHouse$House;LOperaHouse$Calls;LOperaHouse$Ledger;)V"⟩, prog_12_method_1_code, 4, none),
  (⟨"OperaHouse$Judge", "<init>", "(LOperaHouse$House;LOperaHouse$Calls;LOperaHouse$Ledger;LOperaHouse$Wagons;LOperaHouse$Walk;)V"⟩, prog_5_method_1_code, 6, none),
  (⟨"OperaHouse$Layer", "<init>", "(LOperaHouse$House;LOperaHouse$Calls;LOperaHouse$Ledger;LOperaHouse$Judge;)V"⟩, prog_6_method_1_code, 5, none),
  (⟨"OperaHouse", "feed", "(IIIII)I"⟩, prog_1_method_2_code, 6, Option.some Jvm.ClassFile.FieldType.int),
  (⟨"OperaHouse", "putBytes", "(I)V"⟩, prog_1_method_3_code, 3, none),
  (⟨"OperaHouse", "end", "(I)Z"⟩, prog_1_method_4_code, 2, Option.some Jvm.ClassFile.FieldType.boolean),
  (⟨"OperaHouse", "next", "(I)I"⟩, prog_1_method_6_code, 2, Option.some Jvm.ClassFile.FieldType.int),
  (⟨"OperaHouse", "opera", "(IIZI)I"⟩, prog_1_method_7_code, 7, Option.some Jvm.ClassFile.FieldType.int),
  (⟨"OperaHouse", "emptiedTape", "()I"⟩, prog_1_method_5_code, 2, Option.some Jvm.ClassFile.FieldType.int),
  (⟨"OperaHouse", "within", "(III)Z"⟩, prog_1_method_33_code, 3, Option.some Jvm.ClassFile.FieldType.boolean),
  (⟨"OperaHouse$Opera", "readTape", "([II)Z"⟩, prog_8_method_2_code, 4, Option.some Jvm.ClassFile.FieldType.boolean),
  (⟨"OperaHouse$Opera", "readRole", "(I[II)Z"⟩, prog_8_method_3_code, 4, Option.some Jvm.ClassFile.FieldType.boolean),
  (⟨"OperaHouse", "singer", "(III)I"⟩, prog_1_method_8_code, 5, Option.some Jvm.ClassFile.FieldType.int),
  (⟨"OperaHouse", "players", "(III)Z"⟩, prog_1_method_9_code, 4, Option.some Jvm.ClassFile.FieldType.boolean),
  (⟨"OperaHouse", "chorus", "(II)Z"⟩, prog_1_method_10_code, 3, Option.some Jvm.ClassFile.FieldType.boolean),
  (⟨"OperaHouse", "contract", "(I)I"⟩, prog_1_method_11_code, 5, Option.some Jvm.ClassFile.FieldType.int),
  (⟨"OperaHouse$House", "isSinger", "(I)Z"⟩, prog_4_method_4_code, 2, Option.some Jvm.ClassFile.FieldType.boolean),
  (⟨"OperaHouse$Reader", "read", "(ILOperaHouse$Contract;)I"⟩, prog_9_method_2_code, 5, Option.some Jvm.ClassFile.FieldType.int),
  (⟨"OperaHouse$Reader", "advance", "()V"⟩, prog_9_method_13_code, 1, none),
  (⟨"OperaHouse$Reader", "isDigit", "(I)Z"⟩, prog_9_method_15_code, 1, Option.some Jvm.ClassFile.FieldType.boolean),
  (⟨"OperaHouse$Reader", "isLetter", "(I)Z"⟩, prog_9_method_16_code, 1, Option.some Jvm.ClassFile.FieldType.boolean),
  (⟨"OperaHouse$Reader", "readNumber", "()LOperaHouse$Token;"⟩, prog_9_method_14_code, 2, Option.some (Jvm.ClassFile.FieldType.object "OperaHouse$Token")),
  (⟨"OperaHouse$Reader", "limit", "(I)Z"⟩, prog_9_method_4_code, 2, Option.some Jvm.ClassFile.FieldType.boolean),
  (⟨"OperaHouse$Reader", "blame", "(I)Z"⟩, prog_9_method_3_code, 2, Option.some Jvm.ClassFile.FieldType.boolean),
  (⟨"OperaHouse$Reader", "isNumber", "(II)Z"⟩, prog_9_method_11_code, 3, Option.some Jvm.ClassFile.FieldType.boolean),
  (⟨"OperaHouse$Reader", "passes", "(LOperaHouse$Token;)Z"⟩, prog_9_method_12_code, 2, Option.some Jvm.ClassFile.FieldType.boolean),
  (⟨"OperaHouse$Reader", "leave", "()Z"⟩, prog_9_method_5_code, 2, Option.some Jvm.ClassFile.FieldType.boolean),
  (⟨"OperaHouse$Contract", "addLeave", "(II)V"⟩, prog_3_method_3_code, 3, none),
  (⟨"OperaHouse", "daysBetween", "(II)I"⟩, prog_1_method_34_code, 4, Option.some Jvm.ClassFile.FieldType.int),
  (⟨"OperaHouse$Reader", "payment", "()Z"⟩, prog_9_method_6_code, 2, Option.some Jvm.ClassFile.FieldType.boolean),
  (⟨"OperaHouse$Reader", "cond", "(I)Z"⟩, prog_9_method_7_code, 4, Option.some Jvm.ClassFile.FieldType.boolean),
  (⟨"OperaHouse$Reader", "all", "(I)Z"⟩, prog_9_method_8_code, 4, Option.some Jvm.ClassFile.FieldType.boolean),
  (⟨"OperaHouse$Reader", "one", "(I)Z"⟩, prog_9_method_9_code, 4, Option.some Jvm.ClassFile.FieldType.boolean),
  (⟨"OperaHouse$Token", "beginsOne", "()Z"⟩, prog_10_method_5_code, 1, Option.some Jvm.ClassFile.FieldType.boolean),
  (⟨"OperaHouse$Contract", "addStep", "(III)V"⟩, prog_3_method_4_code, 4, none),
  (⟨"OperaHouse$Reader", "measure", "(I)Z"⟩, prog_9_method_10_code, 3, Option.some Jvm.ClassFile.FieldType.boolean),
  (⟨"OperaHouse$Contract", "endFee", "(I)V"⟩, prog_3_method_5_code, 2, none),
  (⟨"OperaHouse", "fault", "()I"⟩, prog_1_method_12_code, 1, Option.some Jvm.ClassFile.FieldType.int),
  (⟨"OperaHouse", "learn", "(IIII)Z"⟩, prog_1_method_13_code, 5, Option.some Jvm.ClassFile.FieldType.boolean),
  (⟨"OperaHouse$House", "isRole", "(II)Z"⟩, prog_4_method_3_code, 3, Option.some Jvm.ClassFile.FieldType.boolean),
  (⟨"OperaHouse$House", "isOpera", "(I)Z"⟩, prog_4_method_2_code, 2, Option.some Jvm.ClassFile.FieldType.boolean),
  (⟨"OperaHouse$Ledger", "tellLesson", "(III)V"⟩, prog_7_method_4_code, 4, none),
  (⟨"OperaHouse", "call", "(IIIII)I"⟩, prog_1_method_14_code, 7, Option.some Jvm.ClassFile.FieldType.int),
  (⟨"OperaHouse$House", "length", "(II)I"⟩, prog_4_method_5_code, 3, Option.some Jvm.ClassFile.FieldType.int),
  (⟨"OperaHouse$Calls", "put", "(IIIIII)V"⟩, prog_2_method_3_code, 9, none),
  (⟨"OperaHouse", "cast", "(IIIZ)Z"⟩, prog_1_method_15_code, 5, Option.some Jvm.ClassFile.FieldType.boolean),
  (⟨"OperaHouse", "isSpot", "(II)Z"⟩, prog_1_method_32_code, 3, Option.some Jvm.ClassFile.FieldType.boolean),
  (⟨"OperaHouse$Calls", "has", "(I)Z"⟩, prog_2_method_2_code, 2, Option.some Jvm.ClassFile.FieldType.boolean),
  (⟨"OperaHouse$Ledger", "tellCast", "(IIZI)V"⟩, prog_7_method_2_code, 5, none),
  (⟨"OperaHouse", "ill", "(III)Z"⟩, prog_1_method_16_code, 4, Option.some Jvm.ClassFile.FieldType.boolean),
  (⟨"OperaHouse$Ledger", "tellIll", "(IIII)V"⟩, prog_7_method_3_code, 5, none),
  (⟨"OperaHouse", "who", "(IIZI)I"⟩, prog_1_method_17_code, 6, Option.some Jvm.ClassFile.FieldType.int),
  (⟨"OperaHouse$Ledger", "know", "(I)V"⟩, prog_7_method_5_code, 3, none),
  (⟨"java/util/Arrays", "fill", "([II)V"⟩, prog_29_method_103_code, 4, none),
  (⟨"OperaHouse$Ledger", "assign", "(II)V"⟩, prog_7_method_6_code, 6, none),
  (⟨"OperaHouse", "wrong", "(I)I"⟩, prog_1_method_18_code, 2, Option.some Jvm.ClassFile.FieldType.int),
  (⟨"OperaHouse$Judge", "run", "()V"⟩, prog_5_method_2_code, 3, none),
  (⟨"OperaHouse$Judge", "judgeStage", "(I)V"⟩, prog_5_method_4_code, 7, none),
  (⟨"OperaHouse$Calls", "isOnAt", "(II)Z"⟩, prog_2_method_7_code, 3, Option.some Jvm.ClassFile.FieldType.boolean),
  (⟨"OperaHouse$Calls", "isLong", "(I)Z"⟩, prog_2_method_6_code, 2, Option.some Jvm.ClassFile.FieldType.boolean),
  (⟨"OperaHouse$Judge", "judgeReadiness", "(I)V"⟩, prog_5_method_6_code, 6, none),
  (⟨"OperaHouse$Judge", "firstEnd", "(III)I"⟩, prog_5_method_7_code, 6, Option.some Jvm.ClassFile.FieldType.int),
  (⟨"OperaHouse$Judge", "judgePlayers", "(I)V"⟩, prog_5_method_8_code, 5, none),
  (⟨"OperaHouse$House", "lacksPlayers", "(II)Z"⟩, prog_4_method_8_code, 5, Option.some Jvm.ClassFile.FieldType.boolean),
  (⟨"OperaHouse$Judge", "judgeChorus", "(I)V"⟩, prog_5_method_9_code, 7, none),
  (⟨"OperaHouse$Judge", "needsChorus", "(I)Z"⟩, prog_5_method_10_code, 2, Option.some Jvm.ClassFile.FieldType.boolean),
  (⟨"OperaHouse$Calls", "hours", "(I)I"⟩, prog_2_method_5_code, 2, Option.some Jvm.ClassFile.FieldType.int),
  (⟨"OperaHouse$Calls", "inWeekOf", "(II)Z"⟩, prog_2_method_8_code, 3, Option.some Jvm.ClassFile.FieldType.boolean),
  (⟨"OperaHouse$Judge", "judgeVacant", "(I)V"⟩, prog_5_method_11_code, 5, none),
  (⟨"OperaHouse$Judge", "judgeSets", "()V"⟩, prog_5_method_5_code, 6, none),
  (⟨"OperaHouse$Wagons", "reset", "()V"⟩, prog_11_method_2_code, 2, none),
  (⟨"OperaHouse$Wagons", "reach", "(I)V"⟩, prog_11_method_3_code, 2, none),
  (⟨"OperaHouse$Wagons", "spread", "(I)V"⟩, prog_11_method_4_code, 6, none),
  (⟨"OperaHouse$Wagons", "moveAll", "(I)V"⟩, prog_11_method_5_code, 6, none),
  (⟨"OperaHouse$Wagons", "freePlace", "(I)I"⟩, prog_11_method_7_code, 3, Option.some Jvm.ClassFile.FieldType.int),
  (⟨"OperaHouse$Wagons", "placeOf", "(II)I"⟩, prog_11_method_6_code, 2, Option.some Jvm.ClassFile.FieldType.int),
  (⟨"OperaHouse$Wagons", "canShow", "(I)Z"⟩, prog_11_method_8_code, 3, Option.some Jvm.ClassFile.FieldType.boolean),
  (⟨"OperaHouse$Wagons", "show", "(I)V"⟩, prog_11_method_9_code, 4, none),
  (⟨"OperaHouse$Walk", "inspect", "(I)V"⟩, prog_12_method_7_code, 8, none),
  (⟨"OperaHouse$Walk", "collectOwn", "(I)V"⟩, prog_12_method_8_code, 6, none),
  (⟨"OperaHouse$Ledger", "rolesOf", "(II)I"⟩, prog_7_method_7_code, 3, Option.some Jvm.ClassFile.FieldType.int),
  (⟨"OperaHouse$Walk", "load", "(II)I"⟩, prog_12_method_4_code, 7, Option.some Jvm.ClassFile.FieldType.int),
  (⟨"OperaHouse$Walk", "bitsOfCall", "(ILOperaHouse$Contract;)I"⟩, prog_12_method_9_code, 10, Option.some Jvm.ClassFile.FieldType.int),
  (⟨"OperaHouse$Ledger", "isSick", "(II)Z"⟩, prog_7_method_8_code, 3, Option.some Jvm.ClassFile.FieldType.boolean),
  (⟨"OperaHouse$Walk", "bitsOfRole", "(IIII)I"⟩, prog_12_method_10_code, 7, Option.some Jvm.ClassFile.FieldType.int),
  (⟨"OperaHouse$House", "suits", "(III)Z"⟩, prog_4_method_7_code, 6, Option.some Jvm.ClassFile.FieldType.boolean),
  (⟨"OperaHouse$House", "sizesApart", "(III)I"⟩, prog_4_method_6_code, 4, Option.some Jvm.ClassFile.FieldType.int),
  (⟨"OperaHouse$Walk", "learnedBy", "(III)I"⟩, prog_12_method_2_code, 8, Option.some Jvm.ClassFile.FieldType.int),
  (⟨"OperaHouse$Judge", "list", "([I)I"⟩, prog_5_method_3_code, 7, Option.some Jvm.ClassFile.FieldType.int),
  (⟨"OperaHouse", "learned", "(IIII)I"⟩, prog_1_method_20_code, 5, Option.some Jvm.ClassFile.FieldType.int),
  (⟨"OperaHouse", "tired", "(III)I"⟩, prog_1_method_21_code, 4, Option.some Jvm.ClassFile.FieldType.int),
  (⟨"OperaHouse$Walk", "tiredAt", "(II)I"⟩, prog_12_method_3_code, 7, Option.some Jvm.ClassFile.FieldType.int),
  (⟨"OperaHouse", "fee", "(III)I"⟩, prog_1_method_22_code, 4, Option.some Jvm.ClassFile.FieldType.int),
  (⟨"OperaHouse$Walk", "feeOf", "(II)I"⟩, prog_12_method_5_code, 5, Option.some Jvm.ClassFile.FieldType.int),
  (⟨"OperaHouse$Ledger", "covers", "(II)Z"⟩, prog_7_method_9_code, 4, Option.some Jvm.ClassFile.FieldType.boolean),
  (⟨"OperaHouse$Ledger", "cameInstead", "(II)Z"⟩, prog_7_method_10_code, 4, Option.some Jvm.ClassFile.FieldType.boolean),
  (⟨"OperaHouse$Walk", "countUpTo", "(II)V"⟩, prog_12_method_6_code, 8, none),
  (⟨"OperaHouse$Contract", "payFor", "([I)I"⟩, prog_3_method_6_code, 4, Option.some Jvm.ClassFile.FieldType.int),
  (⟨"OperaHouse$Contract", "holds", "(I[I)Z"⟩, prog_3_method_7_code, 6, Option.some Jvm.ClassFile.FieldType.boolean),
  (⟨"OperaHouse$Contract", "after", "(IJ[I)J"⟩, prog_3_method_8_code, 5, Option.some Jvm.ClassFile.FieldType.long),
  (⟨"OperaHouse$Contract", "isSo", "(III[I)Z"⟩, prog_3_method_9_code, 5, Option.some Jvm.ClassFile.FieldType.boolean),
  (⟨"OperaHouse", "pay", "(III)I"⟩, prog_1_method_23_code, 6, Option.some Jvm.ClassFile.FieldType.int),
  (⟨"OperaHouse", "moves", "(II)I"⟩, prog_1_method_24_code, 3, Option.some Jvm.ClassFile.FieldType.int),
  (⟨"OperaHouse$Wagons", "fewest", "(II)I"⟩, prog_11_method_10_code, 4, Option.some Jvm.ClassFile.FieldType.int),
  (⟨"OperaHouse", "may", "(III)Z"⟩, prog_1_method_25_code, 4, Option.some Jvm.ClassFile.FieldType.boolean),
  (⟨"OperaHouse$Walk", "fits", "(III)Z"⟩, prog_12_method_11_code, 8, Option.some Jvm.ClassFile.FieldType.boolean),
  (⟨"OperaHouse", "harm", "(III)I"⟩, prog_1_method_26_code, 4, Option.some Jvm.ClassFile.FieldType.int),
  (⟨"OperaHouse$Walk", "harmOf", "(III)I"⟩, prog_12_method_12_code, 11, Option.some Jvm.ClassFile.FieldType.int),
  (⟨"OperaHouse", "instead", "(II)I"⟩, prog_1_method_27_code, 7, Option.some Jvm.ClassFile.FieldType.int),
  (⟨"OperaHouse", "lay", "(III)I"⟩, prog_1_method_28_code, 5, Option.some Jvm.ClassFile.FieldType.int),
  (⟨"OperaHouse$Layer", "forget", "()V"⟩, prog_6_method_2_code, 1, none),
  (⟨"OperaHouse$Layer", "wish", "([III)Z"⟩, prog_6_method_3_code, 5, Option.some Jvm.ClassFile.FieldType.boolean),
  (⟨"OperaHouse$Calls", "firstOf", "(I)I"⟩, prog_2_method_9_code, 3, Option.some Jvm.ClassFile.FieldType.int),
  (⟨"OperaHouse$Layer", "search", "(II)I"⟩, prog_6_method_4_code, 7, Option.some Jvm.ClassFile.FieldType.int),
  (⟨"OperaHouse$Layer", "takeBack", "(I)V"⟩, prog_6_method_10_code, 3, none),
  (⟨"OperaHouse$Calls", "dropLast", "()V"⟩, prog_2_method_4_code, 2, none),
  (⟨"OperaHouse$Layer", "placeNight", "(I)V"⟩, prog_6_method_7_code, 4, none),
  (⟨"OperaHouse$Layer", "putNight", "(I)V"⟩, prog_6_method_8_code, 2, none),
  (⟨"OperaHouse$Layer", "sourceSinger", "(II)I"⟩, prog_6_method_9_code, 3, Option.some Jvm.ClassFile.FieldType.int),
  (⟨"OperaHouse$Layer", "holds", "(I)Z"⟩, prog_6_method_11_code, 4, Option.some Jvm.ClassFile.FieldType.boolean),
  (⟨"OperaHouse$Layer", "startBehind", "(I)V"⟩, prog_6_method_6_code, 2, none),
  (⟨"OperaHouse$Layer", "outcome", "(II)I"⟩, prog_6_method_5_code, 3, Option.some Jvm.ClassFile.FieldType.int),
  (⟨"OperaHouse", "laid", "(I)I"⟩, prog_1_method_29_code, 2, Option.some Jvm.ClassFile.FieldType.int),
  (⟨"OperaHouse", "keep", "()I"⟩, prog_1_method_30_code, 1, Option.some Jvm.ClassFile.FieldType.int),
  (⟨"OperaHouse$Layer", "castsToTell", "()I"⟩, prog_6_method_12_code, 4, Option.some Jvm.ClassFile.FieldType.int),
  (⟨"OperaHouse$Layer", "tellNights", "(I)V"⟩, prog_6_method_13_code, 5, none),
  (⟨"OperaHouse", "count", "(I)I"⟩, prog_1_method_31_code, 2, Option.some Jvm.ClassFile.FieldType.int),
  (⟨"OperaHouseModel", "<init>", "()V"⟩, prog_14_method_1_code, 1, none),
  (⟨"OperaHouseModel", "feed", "(IIIII)I"⟩, prog_14_method_4_code, 6, Option.some Jvm.ClassFile.FieldType.int),
  (⟨"OperaHouseModel", "four", "(I)V"⟩, prog_14_method_5_code, 3, none),
  (⟨"OperaHouseModel", "end", "(I)Z"⟩, prog_14_method_6_code, 2, Option.some Jvm.ClassFile.FieldType.boolean),
  (⟨"OperaHouseModel", "next", "(I)I"⟩, prog_14_method_9_code, 2, Option.some Jvm.ClassFile.FieldType.int),
  (⟨"OperaHouseModel", "isIn", "(III)Z"⟩, prog_14_method_8_code, 3, Option.some Jvm.ClassFile.FieldType.boolean),
  (⟨"OperaHouseModel", "opera", "(IIZI)I"⟩, prog_14_method_10_code, 8, Option.some Jvm.ClassFile.FieldType.int),
  (⟨"OperaHouseModel", "taken", "()V"⟩, prog_14_method_7_code, 1, none),
  (⟨"OperaHouseModel", "singer", "(III)I"⟩, prog_14_method_13_code, 4, Option.some Jvm.ClassFile.FieldType.int),
  (⟨"OperaHouseModel", "plain", "(I)V"⟩, prog_14_method_18_code, 2, none),
  (⟨"OperaHouseModel", "players", "(III)Z"⟩, prog_14_method_14_code, 4, Option.some Jvm.ClassFile.FieldType.boolean),
  (⟨"OperaHouseModel", "chorus", "(II)Z"⟩, prog_14_method_15_code, 3, Option.some Jvm.ClassFile.FieldType.boolean),
  (⟨"OperaHouseModel", "contract", "(I)I"⟩, prog_14_method_27_code, 4, Option.some Jvm.ClassFile.FieldType.int),
  (⟨"OperaHouseModel", "isSinger", "(I)Z"⟩, prog_14_method_12_code, 2, Option.some Jvm.ClassFile.FieldType.boolean),
  (⟨"OperaHouseModel", "next", "()V"⟩, prog_14_method_22_code, 4, none),
  (⟨"OperaHouseModel", "peek", "()I"⟩, prog_14_method_19_code, 1, Option.some Jvm.ClassFile.FieldType.int),
  (⟨"OperaHouseModel", "isSmall", "(I)Z"⟩, prog_14_method_20_code, 1, Option.some Jvm.ClassFile.FieldType.boolean),
  (⟨"OperaHouseModel", "isDigit", "(I)Z"⟩, prog_14_method_21_code, 1, Option.some Jvm.ClassFile.FieldType.boolean),
  (⟨"OperaHouseModel", "rule", "()Z"⟩, prog_14_method_30_code, 1, Option.some Jvm.ClassFile.FieldType.boolean),
  (⟨"OperaHouseModel", "isWord", "(J)Z"⟩, prog_14_method_24_code, 3, Option.some Jvm.ClassFile.FieldType.boolean),
  (⟨"OperaHouseModel", "once", "(III)Z"⟩, prog_14_method_29_code, 4, Option.some Jvm.ClassFile.FieldType.boolean),
  (⟨"OperaHouseModel", "bad", "(I)Z"⟩, prog_14_method_23_code, 2, Option.some Jvm.ClassFile.FieldType.boolean),
  (⟨"OperaHouseModel", "leave", "()Z"⟩, prog_14_method_31_code, 2, Option.some Jvm.ClassFile.FieldType.boolean),
  (⟨"OperaHouseModel", "fee", "()Z"⟩, prog_14_method_32_code, 2, Option.some Jvm.ClassFile.FieldType.boolean),
  (⟨"OperaHouseModel", "cond", "()Z"⟩, prog_14_method_39_code, 2, Option.some Jvm.ClassFile.FieldType.boolean),
  (⟨"OperaHouseModel", "one", "()Z"⟩, prog_14_method_40_code, 4, Option.some Jvm.ClassFile.FieldType.boolean),
  (⟨"OperaHouseModel", "atom", "()I"⟩, prog_14_method_34_code, 1, Option.some Jvm.ClassFile.FieldType.int),
  (⟨"OperaHouseModel", "isSign", "(I)Z"⟩, prog_14_method_25_code, 2, Option.some Jvm.ClassFile.FieldType.boolean),
  (⟨"OperaHouseModel", "open", "()I"⟩, prog_14_method_37_code, 3, Option.some Jvm.ClassFile.FieldType.int),
  (⟨"OperaHouseModel", "write", "(III)V"⟩, prog_14_method_33_code, 4, none),
  (⟨"OperaHouseModel", "writeDown", "(I)V"⟩, prog_14_method_35_code, 2, none),
  (⟨"OperaHouseModel", "binds", "(I)I"⟩, prog_14_method_36_code, 1, Option.some Jvm.ClassFile.FieldType.int),
  (⟨"OperaHouseModel", "isOpen", "()Z"⟩, prog_14_method_38_code, 2, Option.some Jvm.ClassFile.FieldType.boolean),
  (⟨"OperaHouseModel", "sign", "(I)Z"⟩, prog_14_method_26_code, 2, Option.some Jvm.ClassFile.FieldType.boolean),
  (⟨"OperaHouseModel", "fault", "()I"⟩, prog_14_method_28_code, 1, Option.some Jvm.ClassFile.FieldType.int),
  (⟨"OperaHouseModel", "learn", "(IIII)Z"⟩, prog_14_method_42_code, 5, Option.some Jvm.ClassFile.FieldType.boolean),
  (⟨"OperaHouseModel", "isRole", "(II)Z"⟩, prog_14_method_11_code, 3, Option.some Jvm.ClassFile.FieldType.boolean),
  (⟨"OperaHouseModel", "call", "(IIIII)I"⟩, prog_14_method_45_code, 6, Option.some Jvm.ClassFile.FieldType.int),
  (⟨"OperaHouseModel", "lengthOf", "(II)I"⟩, prog_14_method_43_code, 3, Option.some Jvm.ClassFile.FieldType.int),
  (⟨"OperaHouseModel", "place", "(IIIIII)V"⟩, prog_14_method_44_code, 7, none),
  (⟨"OperaHouseModel", "cast", "(IIIZ)Z"⟩, prog_14_method_48_code, 5, Option.some Jvm.ClassFile.FieldType.boolean),
  (⟨"OperaHouseModel", "isCallRole", "(II)Z"⟩, prog_14_method_46_code, 3, Option.some Jvm.ClassFile.FieldType.boolean),
  (⟨"OperaHouseModel", "tell", "(IIIZ)V"⟩, prog_14_method_47_code, 5, none),
  (⟨"OperaHouseModel", "ill", "(III)Z"⟩, prog_14_method_49_code, 4, Option.some Jvm.ClassFile.FieldType.boolean),
  (⟨"OperaHouseModel", "who", "(IIZI)I"⟩, prog_14_method_62_code, 5, Option.some Jvm.ClassFile.FieldType.int),
  (⟨"OperaHouseModel", "load", "(I)V"⟩, prog_14_method_50_code, 4, none),
  (⟨"OperaHouseModel", "sort", "()V"⟩, prog_14_method_51_code, 3, none),
  (⟨"OperaHouseModel", "enroll", "(I)V"⟩, prog_14_method_52_code, 3, none),
  (⟨"OperaHouseModel", "learned", "(IIII)I"⟩, prog_14_method_63_code, 5, Option.some Jvm.ClassFile.FieldType.int),
  (⟨"OperaHouseModel", "learnedOf", "(III)I"⟩, prog_14_method_58_code, 7, Option.some Jvm.ClassFile.FieldType.int),
  (⟨"OperaHouseModel", "longOf", "(I)I"⟩, prog_14_method_56_code, 2, Option.some Jvm.ClassFile.FieldType.int),
  (⟨"OperaHouseModel", "tired", "(III)I"⟩, prog_14_method_64_code, 4, Option.some Jvm.ClassFile.FieldType.int),
  (⟨"OperaHouseModel", "tiredOf", "(II)I"⟩, prog_14_method_59_code, 9, Option.some Jvm.ClassFile.FieldType.int),
  (⟨"OperaHouseModel", "isIn", "(II)Z"⟩, prog_14_method_53_code, 3, Option.some Jvm.ClassFile.FieldType.boolean),
  (⟨"OperaHouseModel", "fee", "(III)I"⟩, prog_14_method_69_code, 4, Option.some Jvm.ClassFile.FieldType.int),
  (⟨"OperaHouseModel", "feeOf", "(II)I"⟩, prog_14_method_68_code, 6, Option.some Jvm.ClassFile.FieldType.int),
  (⟨"OperaHouseModel", "isCover", "(II)Z"⟩, prog_14_method_54_code, 4, Option.some Jvm.ClassFile.FieldType.boolean),
  (⟨"OperaHouseModel", "isIll", "(II)Z"⟩, prog_14_method_57_code, 4, Option.some Jvm.ClassFile.FieldType.boolean),
  (⟨"OperaHouseModel", "isSo", "(IIIIZ)Z"⟩, prog_14_method_67_code, 10, Option.some Jvm.ClassFile.FieldType.boolean),
  (⟨"OperaHouseModel", "asks", "(IIIZ)Z"⟩, prog_14_method_65_code, 5, Option.some Jvm.ClassFile.FieldType.boolean),
  (⟨"OperaHouseModel", "cameInstead", "(II)Z"⟩, prog_14_method_55_code, 5, Option.some Jvm.ClassFile.FieldType.boolean),
  (⟨"OperaHouseModel", "numberOf", "(IIIZ)I"⟩, prog_14_method_66_code, 6, Option.some Jvm.ClassFile.FieldType.int),
  (⟨"OperaHouseModel", "nights", "(III)I"⟩, prog_14_method_61_code, 6, Option.some Jvm.ClassFile.FieldType.int),
  (⟨"OperaHouseModel", "dayHours", "(II)I"⟩, prog_14_method_60_code, 5, Option.some Jvm.ClassFile.FieldType.int),
  (⟨"OperaHouseModel", "pay", "(III)I"⟩, prog_14_method_70_code, 6, Option.some Jvm.ClassFile.FieldType.int),
  (⟨"OperaHouseModel", "moves", "(II)I"⟩, prog_14_method_77_code, 4, Option.some Jvm.ClassFile.FieldType.int),
  (⟨"OperaHouseModel", "atFirst", "()V"⟩, prog_14_method_74_code, 2, none),
  (⟨"OperaHouseModel", "canStand", "(I)Z"⟩, prog_14_method_76_code, 3, Option.some Jvm.ClassFile.FieldType.boolean),
  (⟨"OperaHouseModel", "placeOf", "(II)I"⟩, prog_14_method_71_code, 2, Option.some Jvm.ClassFile.FieldType.int),
  (⟨"OperaHouseModel", "goOn", "()Z"⟩, prog_14_method_75_code, 5, Option.some Jvm.ClassFile.FieldType.boolean),
  (⟨"OperaHouseModel", "areNext", "(II)Z"⟩, prog_14_method_73_code, 4, Option.some Jvm.ClassFile.FieldType.boolean),
  (⟨"OperaHouseModel", "moved", "(III)I"⟩, prog_14_method_72_code, 3, Option.some Jvm.ClassFile.FieldType.int),
  (⟨"OperaHouseModel", "wrong", "(I)I"⟩, prog_14_method_93_code, 3, Option.some Jvm.ClassFile.FieldType.int),
  (⟨"OperaHouseModel", "judge", "()V"⟩, prog_14_method_91_code, 6, none),
  (⟨"OperaHouseModel", "roll", "()V"⟩, prog_14_method_78_code, 7, none),
  (⟨"OperaHouseModel", "isCallWrong", "(II)Z"⟩, prog_14_method_89_code, 3, Option.some Jvm.ClassFile.FieldType.boolean),
  (⟨"OperaHouseModel", "isFullStage", "(I)Z"⟩, prog_14_method_80_code, 5, Option.some Jvm.ClassFile.FieldType.boolean),
  (⟨"OperaHouseModel", "isOn", "(II)Z"⟩, prog_14_method_79_code, 3, Option.some Jvm.ClassFile.FieldType.boolean),
  (⟨"OperaHouseModel", "isUnready", "(I)Z"⟩, prog_14_method_82_code, 2, Option.some Jvm.ClassFile.FieldType.boolean),
  (⟨"OperaHouseModel", "firstEnd", "(III)I"⟩, prog_14_method_81_code, 6, Option.some Jvm.ClassFile.FieldType.int),
  (⟨"OperaHouseModel", "lacksPlayers", "(I)Z"⟩, prog_14_method_83_code, 4, Option.some Jvm.ClassFile.FieldType.boolean),
  (⟨"OperaHouseModel", "playsTwice", "(I)Z"⟩, prog_14_method_84_code, 3, Option.some Jvm.ClassFile.FieldType.boolean),
  (⟨"OperaHouseModel", "tiresChorus", "(I)Z"⟩, prog_14_method_85_code, 6, Option.some Jvm.ClassFile.FieldType.boolean),
  (⟨"OperaHouseModel", "note", "(III)V"⟩, prog_14_method_90_code, 4, none),
  (⟨"OperaHouseModel", "isWrong", "(IIII)Z"⟩, prog_14_method_88_code, 5, Option.some Jvm.ClassFile.FieldType.boolean),
  (⟨"OperaHouseModel", "suits", "(III)Z"⟩, prog_14_method_17_code, 5, Option.some Jvm.ClassFile.FieldType.boolean),
  (⟨"OperaHouseModel", "apart", "(II)I"⟩, prog_14_method_16_code, 2, Option.some Jvm.ClassFile.FieldType.int),
  (⟨"OperaHouseModel", "isAway", "(II)Z"⟩, prog_14_method_41_code, 4, Option.some Jvm.ClassFile.FieldType.boolean),
  (⟨"OperaHouseModel", "isBusy", "(III)Z"⟩, prog_14_method_86_code, 5, Option.some Jvm.ClassFile.FieldType.boolean),
  (⟨"OperaHouseModel", "lacksRest", "(II)Z"⟩, prog_14_method_87_code, 5, Option.some Jvm.ClassFile.FieldType.boolean),
  (⟨"OperaHouseModel", "told", "(II)I"⟩, prog_14_method_94_code, 3, Option.some Jvm.ClassFile.FieldType.int),
  (⟨"OperaHouseModel", "throwsIf", "(Z)Z"⟩, prog_14_method_3_code, 2, Option.some Jvm.ClassFile.FieldType.boolean),
  (⟨"OperaHouseModel", "may", "(III)Z"⟩, prog_14_method_100_code, 4, Option.some Jvm.ClassFile.FieldType.boolean),
  (⟨"OperaHouseModel", "mayHave", "(III)Z"⟩, prog_14_method_98_code, 4, Option.some Jvm.ClassFile.FieldType.boolean),
  (⟨"OperaHouseModel", "unmark", "()V"⟩, prog_14_method_96_code, 2, none),
  (⟨"OperaHouseModel", "marks", "(IZ)Z"⟩, prog_14_method_95_code, 7, Option.some Jvm.ClassFile.FieldType.boolean),
  (⟨"OperaHouseModel", "markOf", "(III)I"⟩, prog_14_method_92_code, 3, Option.some Jvm.ClassFile.FieldType.int),
  (⟨"OperaHouseModel", "put", "(III)V"⟩, prog_14_method_97_code, 4, none),
  (⟨"OperaHouseModel", "harm", "(III)I"⟩, prog_14_method_101_code, 4, Option.some Jvm.ClassFile.FieldType.int),
  (⟨"OperaHouseModel", "harmOf", "(III)I"⟩, prog_14_method_99_code, 6, Option.some Jvm.ClassFile.FieldType.int),
  (⟨"OperaHouseModel", "instead", "(II)I"⟩, prog_14_method_102_code, 7, Option.some Jvm.ClassFile.FieldType.int),
  (⟨"OperaHouseModel", "lay", "(III)I"⟩, prog_14_method_105_code, 8, Option.some Jvm.ClassFile.FieldType.int),
  (⟨"OperaHouseModel", "putNight", "(III)V"⟩, prog_14_method_103_code, 7, none),
  (⟨"OperaHouseModel", "goes", "(I)Z"⟩, prog_14_method_104_code, 3, Option.some Jvm.ClassFile.FieldType.boolean),
  (⟨"OperaHouseModel", "laid", "(I)I"⟩, prog_14_method_106_code, 2, Option.some Jvm.ClassFile.FieldType.int),
  (⟨"OperaHouseModel", "keep", "()I"⟩, prog_14_method_107_code, 5, Option.some Jvm.ClassFile.FieldType.int),
  (⟨"OperaHouseModel", "count", "(I)I"⟩, prog_14_method_108_code, 2, Option.some Jvm.ClassFile.FieldType.int),
  (⟨"OperaHouse$Token", "find", "([III)LOperaHouse$Token;"⟩, prog_10_method_4_code, 6, Option.some (Jvm.ClassFile.FieldType.object "OperaHouse$Token"))]
def zx_rmt : List (Nat × Nat) := [(217, 16903), (166, 2821), (4, 101), (0, 0), (5, 36), (7, 420), (16, 6480), (2, 745), (5, 110), (5, 1090), (1, 60), (5, 558), (0, 0), (0, 0), (0, 0), (0, 0), (0, 0), (0, 0), (0, 0), (0, 0), (0, 0), (0, 0), (0, 0), (0, 0), (0, 0), (0, 0), (0, 0), (0, 0), (0, 0), (0, 0), (0, 0), (0, 0), (0, 0), (0, 0), (0, 0), (0, 0), (0, 0), (0, 0), (0, 0), (0, 0), (0, 0), (0, 0), (0, 0), (0, 0), (0, 0), (0, 0), (0, 0), (0, 0), (0, 0), (0, 0), (0, 0), (0, 0), (0, 0), (0, 0), (0, 0), (0, 0), (0, 0), (0, 0), (0, 0), (0, 0), (0, 0), (0, 0), (0, 0), (0, 0), (0, 0), (0, 0), (0, 0), (0, 0), (0, 0), (0, 0), (0, 0), (0, 0), (0, 0), (0, 0), (0, 0), (0, 0), (0, 0), (0, 0), (0, 0), (0, 0), (0, 0), (0, 0), (0, 0), (0, 0), (0, 0), (0, 0), (0, 0), (0, 0), (0, 0), (0, 0), (0, 0), (0, 0), (0, 0), (0, 0), (0, 0), (0, 0), (0, 0), (0, 0), (0, 0), (0, 0), (0, 0), (0, 0), (0, 0), (0, 0), (0, 0), (0, 0), (0, 0), (0, 0), (0, 0), (0, 0), (0, 0), (0, 0), (0, 0), (0, 0), (0, 0), (0, 0), (0, 0), (0, 0), (0, 0), (0, 0), (0, 0), (0, 0), (0, 0), (0, 0), (0, 0), (0, 0), (0, 0), (0, 0), (0, 0), (0, 0), (0, 0), (0, 0), (0, 0), (0, 0), (0, 0), (0, 0), (68, 56070), (0, 0), (0, 0), (0, 0), (0, 0), (0, 0), (0, 0), (0, 0), (0, 0), (0, 0), (0, 0), (0, 0), (0, 0), (0, 0), (0, 0), (0, 0), (0, 0), (0, 0), (0, 0), (0, 0), (0, 0), (0, 0), (0, 0), (0, 0), (0, 0), (0, 0), (0, 0), (0, 0), (0, 0), (0, 0), (0, 0), (0, 0), (0, 0), (0, 0), (0, 0), (0, 0), (0, 0), (0, 0), (0, 0), (0, 0), (0, 0), (0, 0), (0, 0), (0, 0), (0, 0), (0, 0), (0, 0), (0, 0), (0, 0), (0, 0), (0, 0), (0, 0), (0, 0), (0, 0), (0, 0), (0, 0), (0, 0), (0, 0), (0, 0), (0, 0), (0, 0), (0, 0), (0, 0), (0, 0), (0, 0), (0, 0), (0, 0), (0, 0), (0, 0), (0, 0), (0, 0), (0, 0), (0, 0), (0, 0), (0, 0), (0, 0), (0, 0), (0, 0), (0, 0), (0, 0), (0, 0), (0, 0), (0, 0), (0, 0), (0, 0), (0, 0), (0, 0), (0, 0), (0, 0), (0, 0), (0, 0), (0, 0), (0, 0), (0, 0), (0, 0), (0, 0), (0, 0), (0, 0), (0, 0), (0, 0), (0, 0), (0, 0), (0, 0), (0, 0), (0, 0), (0, 0), (0, 0), (0, 0)]
-- OperaHouse
def zx_oc0 : String := "OperaHouse"
def zx_Fc0 : List (Nat × (Nat × Nat × Nat × Bool)) := [(9, 10, 0, 3, true), (13, 10, 1, 3, true), (19, 10, 2, 3, true), (26, 10, 3, 3, true), (33, 10, 4, 3, true), (40, 10, 5, 3, true), (49, 10, 6, 3, true), (58, 10, 7, 3, true), (67, 10, 8, 3, true), (76, 10, 9, 3, true), (80, 2, 2, 0, false), (84, 2, 3, 0, false), (87, 10, 10, 0, false), (94, 4, 12, 1, false), (98, 10, 11, 0, false), (105, 2, 0, 0, false), (112, 2, 5, 3, true), (122, 6, 0, 0, false), (125, 6, 1, 0, false), (128, 6, 4, 1, false), (131, 6, 2, 0, false), (134, 2, 1, 0, false), (137, 2, 7, 3, true), (140, 2, 8, 3, true), (143, 2, 9, 3, true), (146, 2, 10, 3, true), (149, 2, 11, 3, true), (156, 2, 6, 3, true), (160, 2, 4, 3, false), (168, 7, 8, 0, false), (171, 10, 12, 0, false), (178, 5, 9, 0, false), (185, 0, 0, 0, false), (202, 0, 1, 3, true), (205, 5, 0, 0, false), (212, 5, 5, 0, false), (222, 5, 15, 3, true), (225, 5, 13, 3, true), (235, 10, 13, 0, false), (277, 4, 11, 0, false), (280, 4, 10, 3, true), (287, 0, 5, 3, true)]
def zx_pFc0 : List Nat := [3004, 3005, 3006, 3007, 3008, 3009, 3010, 3011, 3012, 3013, 1142, 1144, 3014, 2216, 3015, 1138, 1152, 1095, 1097, 1104, 1098, 1141, 1157, 1159, 1161, 1163, 1165, 1155, 1147, 2112, 3016, 2019, 1201, 1205, 2008, 2014, 2032, 2027, 3017, 2214, 2212, 1218]
def zx_Fic0 : List (Nat × (Nat × Nat × Nat × Bool)) := [(9, 10, 0, 3, true), (13, 10, 1, 3, true), (19, 10, 2, 3, true), (26, 10, 3, 3, true), (33, 10, 4, 3, true), (40, 10, 5, 3, true), (49, 10, 6, 3, true), (58, 10, 7, 3, true), (67, 10, 8, 3, true), (76, 10, 9, 3, true), (80, 2, 2, 0, false), (84, 2, 3, 0, false), (87, 10, 10, 0, false), (94, 4, 12, 1, false), (98, 10, 11, 0, false), (105, 2, 0, 0, false), (122, 6, 0, 0, false), (125, 6, 1, 0, false), (128, 6, 4, 1, false), (131, 6, 2, 0, false), (134, 2, 1, 0, false), (160, 2, 4, 3, false), (168, 7, 8, 0, false), (171, 10, 12, 0, false), (178, 5, 9, 0, false), (185, 0, 0, 0, false), (205, 5, 0, 0, false), (212, 5, 5, 0, false), (235, 10, 13, 0, false), (277, 4, 11, 0, false)]
def zx_pFic0 : List Nat := [3004, 3005, 3006, 3007, 3008, 3009, 3010, 3011, 3012, 3013, 1142, 1144, 3014, 2216, 3015, 1138, 1095, 1097, 1104, 1098, 1141, 1147, 2112, 3016, 2019, 1201, 2008, 2014, 3017, 2214]
def zx_Sc0 : List (Nat × Nat) := []
def zx_pSc0 : List Nat := []
def zx_Cc0 : List (Nat × Nat) := [(16, 2), (23, 0), (30, 5), (37, 8), (44, 7), (53, 9), (62, 3), (71, 4)]
def zx_pCc0 : List (List Nat) := [[1034, 1035, 1002], [1191, 1192, 1005], [2001, 2002, 1006], [2077, 2078, 1007], [2093, 2094, 1008], [2132, 2133, 1011], [2168, 2169, 1012], [2195, 2196, 1013]]
def zx_Ic0 : List (Nat × Int) := []
def zx_pIc0 : List Nat := []
def zx_Lc0 : List Nat := []
def zx_Lvc0 : List (Nat × Int64) := []
def zx_pLc0 : List Nat := []
def zx_Kc0 : List (Nat × (Nat × Nat × Nat × Nat)) := [(1, 5, 0, 1, 0), (18, 2, 1, 1, 0), (25, 4, 5, 1, 0), (32, 4, 6, 1, 0), (39, 4, 7, 1, 0), (46, 2, 8, 2, 0), (55, 2, 9, 4, 0), (64, 2, 10, 6, 0), (73, 2, 11, 5, 0), (90, 0, 13, 2, 10), (101, 0, 17, 1, 10), (108, 1, 18, 3, 0), (116, 0, 19, 3, 6), (152, 0, 25, 2, 2), (164, 0, 26, 3, 7), (174, 0, 48, 3, 2), (181, 0, 50, 4, 5), (188, 0, 49, 2, 2), (191, 0, 52, 3, 2), (195, 0, 53, 7, 0), (199, 0, 55, 3, 10), (208, 0, 57, 5, 5), (215, 0, 59, 5, 5), (219, 0, 61, 2, 5), (228, 0, 65, 1, 3), (231, 0, 97, 2, 3), (245, 0, 96, 4, 9), (249, 0, 56, 2, 0), (252, 0, 100, 3, 9), (255, 0, 102, 3, 9), (258, 0, 112, 3, 8), (261, 0, 114, 4, 9), (264, 0, 116, 4, 9), (267, 0, 119, 1, 4), (270, 0, 120, 4, 4), (274, 0, 122, 3, 4), (281, 0, 133, 1, 4), (284, 0, 134, 2, 4)]
def zx_pTc0 : List Nat := []
def zx_pKc0 : List (List Nat) := [[1031, 1032, 1033], [1038, 1002, 1036, 1037], [1195, 1005, 1194], [2005, 1006, 2004], [2081, 1007, 2080], [2097, 1008, 2095, 2096], [2136, 1011, 2134, 2135], [2172, 1012, 2170, 2171], [2199, 1013, 2197, 2198], [3054, 1001, 3051, 3053, 0], [3070, 1001, 3067, 3069, 1], [3073, 1001, 3071, 3072], [3077, 1004, 3074, 3075, 3076], [3102, 1002, 3099, 3100, 3101], [3106, 1008, 3103, 3104, 3105], [4037, 1002, 4034, 4035, 4036], [4045, 1006, 4042, 4043, 4044], [4041, 1002, 4050, 4039, 4040], [4054, 1002, 4051, 4052, 4053], [4058, 1005, 4055, 4056, 4057], [4066, 1001, 4063, 4065, 15], [4074, 1006, 4071, 4072, 4073], [4082, 1006, 4079, 4080, 4081], [4091, 1006, 4088, 4089, 4090], [4106, 1012, 4103, 4104, 4105], [5012, 1012, 5009, 5010, 5011], [5008, 1011, 5017, 5006, 5007], [4070, 1005, 4067, 4068, 4069], [5025, 1011, 5022, 5023, 5024], [5033, 1011, 5030, 5031, 5032], [5077, 1007, 5074, 5075, 5076], [5088, 1011, 5085, 5086, 5087], [5102, 1011, 5099, 5100, 5101], [5116, 1013, 5113, 5114, 5115], [5120, 1013, 5117, 5118, 5119], [5130, 1013, 5127, 5128, 5129], [5178, 1013, 5175, 5176, 5177], [5182, 1013, 5179, 5180, 5181]]
-- OperaHouse$House
def zx_oc1 : String := "OperaHouse$House"
def zx_Fc1 : List (Nat × (Nat × Nat × Nat × Bool)) := [(12, 2, 4, 3, false), (20, 2, 5, 3, true), (24, 2, 6, 3, true), (28, 2, 7, 3, true), (32, 2, 8, 3, true), (35, 2, 9, 3, true), (38, 2, 10, 3, true), (41, 2, 11, 3, true), (45, 2, 0, 0, false), (53, 6, 3, 0, false), (56, 2, 1, 0, false), (59, 6, 0, 0, false), (62, 6, 9, 3, true), (71, 6, 6, 3, true), (74, 6, 8, 3, true), (81, 6, 5, 3, true)]
def zx_pFc1 : List Nat := [1146, 1148, 1153, 1156, 1158, 1160, 1162, 1164, 1137, 1101, 1140, 1094, 1115, 1109, 1113, 1107]
def zx_Fic1 : List (Nat × (Nat × Nat × Nat × Bool)) := [(12, 2, 4, 3, false), (20, 2, 5, 3, true), (24, 2, 6, 3, true), (28, 2, 7, 3, true), (32, 2, 8, 3, true), (35, 2, 9, 3, true), (38, 2, 10, 3, true), (41, 2, 11, 3, true), (45, 2, 0, 0, false), (53, 6, 3, 0, false), (56, 2, 1, 0, false), (59, 6, 0, 0, false)]
def zx_pFic1 : List Nat := [1146, 1148, 1153, 1156, 1158, 1160, 1162, 1164, 1137, 1101, 1140, 1094]
def zx_Sc1 : List (Nat × Nat) := []
def zx_pSc1 : List Nat := []
def zx_Cc1 : List (Nat × Nat) := [(9, 1), (18, 6), (65545, 1), (65554, 6)]
def zx_pCc1 : List (List Nat) := [[1040, 1041, 1003], [1085, 1088, 1004], [1040, 0, 0], [1085, 0, 0]]
def zx_Ic1 : List (Nat × Int) := []
def zx_pIc1 : List Nat := []
def zx_Lc1 : List Nat := []
def zx_Lvc1 : List (Nat × Int64) := []
def zx_pLc1 : List Nat := []
def zx_Kc1 : List (Nat × (Nat × Nat × Nat × Nat)) := [(3, 5, 0, 1, 0), (11, 2, 2, 1, 0), (44, 4, 4, 1, 0), (49, 0, 49, 2, 2), (65, 8, 0, 0, 0), (77, 0, 95, 4, 2)]
def zx_pTc1 : List Nat := []
def zx_pKc1 : List (List Nat) := [[1039, 1032, 1033], [1044, 1003, 1042, 1043], [1091, 1004, 1090], [4041, 1002, 4038, 4039, 4040], [5002, 5003, 1020, 5004], [5001, 1002, 4238, 4239, 5000]]
-- OperaHouse$Contract
def zx_oc2 : String := "OperaHouse$Contract"
def zx_Fc2 : List (Nat × (Nat × Nat × Nat × Bool)) := [(9, 1, 0, 3, true), (15, 1, 1, 3, true), (18, 1, 2, 3, true), (21, 1, 3, 3, true), (27, 1, 4, 0, false), (31, 1, 5, 0, false), (34, 1, 6, 0, false), (37, 1, 7, 0, false), (40, 1, 8, 0, false)]
def zx_pFc2 : List Nat := [1050, 1053, 1054, 1055, 1056, 1058, 1060, 1062, 1064]
def zx_Fic2 : List (Nat × (Nat × Nat × Nat × Bool)) := [(9, 1, 0, 3, true), (15, 1, 1, 3, true), (18, 1, 2, 3, true), (21, 1, 3, 3, true), (27, 1, 4, 0, false), (31, 1, 5, 0, false), (34, 1, 6, 0, false), (37, 1, 7, 0, false), (40, 1, 8, 0, false)]
def zx_pFic2 : List Nat := [1050, 1053, 1054, 1055, 1056, 1058, 1060, 1062, 1064]
def zx_Sc2 : List (Nat × Nat) := [(61, 29), (70, 30)]
def zx_pSc2 : List Nat := [5062, 5064]
def zx_Cc2 : List (Nat × Nat) := []
def zx_pCc2 : List (List Nat) := []
def zx_Ic2 : List (Nat × Int) := []
def zx_pIc2 : List Nat := []
def zx_Lc2 : List Nat := [55]
def zx_Lvc2 : List (Nat × Int64) := [(55, -2)]
def zx_pLc2 : List Nat := [5058]
def zx_Kc2 : List (Nat × (Nat × Nat × Nat × Nat)) := [(3, 5, 0, 1, 0), (24, 0, 3, 1, 1), (43, 3, 37, 2, 0), (47, 0, 107, 3, 1), (51, 1, 108, 3, 0), (57, 1, 109, 4, 0)]
def zx_pTc2 : List Nat := [9073]
def zx_pKc2 : List (List Nat) := [[1045, 1032, 1033], [1049, 1003, 1046, 1047, 1048], [3217, 1001, 3216], [5054, 1003, 5051, 5053, 31], [5057, 1003, 5055, 5056], [5061, 1003, 5059, 5060]]
-- OperaHouse$Opera
def zx_oc3 : String := "OperaHouse$Opera"
def zx_Fc3 : List (Nat × (Nat × Nat × Nat × Bool)) := [(9, 6, 5, 3, true), (15, 6, 6, 3, true), (18, 6, 7, 3, true), (21, 6, 8, 3, true), (24, 6, 9, 3, true), (27, 6, 3, 0, false)]
def zx_pFc3 : List Nat := [1106, 1108, 1110, 1112, 1114, 1100]
def zx_Fic3 : List (Nat × (Nat × Nat × Nat × Bool)) := [(9, 6, 5, 3, true), (15, 6, 6, 3, true), (18, 6, 7, 3, true), (21, 6, 8, 3, true), (24, 6, 9, 3, true), (27, 6, 3, 0, false)]
def zx_pFic3 : List Nat := [1106, 1108, 1110, 1112, 1114, 1100]
def zx_Sc3 : List (Nat × Nat) := []
def zx_pSc3 : List Nat := []
def zx_Cc3 : List (Nat × Nat) := []
def zx_pCc3 : List (List Nat) := []
def zx_Ic3 : List (Nat × Int) := []
def zx_pIc3 : List Nat := []
def zx_Lc3 : List Nat := []
def zx_Lvc3 : List (Nat × Int64) := []
def zx_pLc3 : List Nat := []
def zx_Kc3 : List (Nat × (Nat × Nat × Nat × Nat)) := [(3, 5, 0, 1, 0), (31, 0, 20, 4, 6), (35, 3, 18, 3, 0)]
def zx_pTc3 : List Nat := []
def zx_pKc3 : List (List Nat) := [[1092, 1032, 1033], [3081, 1004, 3078, 3080, 2], [3073, 1001, 3072]]
-- OperaHouse$Calls
def zx_oc4 : String := "OperaHouse$Calls"
def zx_Fc4 : List (Nat × (Nat × Nat × Nat × Bool)) := [(9, 0, 1, 3, true), (15, 0, 2, 3, true), (18, 0, 3, 3, true), (21, 0, 4, 3, true), (24, 0, 5, 3, true), (27, 0, 6, 3, true), (30, 0, 7, 3, true), (33, 0, 0, 0, false)]
def zx_pFc4 : List Nat := [1202, 1206, 1209, 1212, 1215, 1219, 1221, 1197]
def zx_Fic4 : List (Nat × (Nat × Nat × Nat × Bool)) := [(9, 0, 1, 3, true), (15, 0, 2, 3, true), (18, 0, 3, 3, true), (21, 0, 4, 3, true), (24, 0, 5, 3, true), (27, 0, 6, 3, true), (30, 0, 7, 3, true), (33, 0, 0, 0, false)]
def zx_pFic4 : List Nat := [1202, 1206, 1209, 1212, 1215, 1219, 1221, 1197]
def zx_Sc4 : List (Nat × Nat) := []
def zx_pSc4 : List Nat := []
def zx_Cc4 : List (Nat × Nat) := []
def zx_pCc4 : List (List Nat) := []
def zx_Ic4 : List (Nat × Int) := []
def zx_pIc4 : List Nat := []
def zx_Lc4 : List Nat := []
def zx_Lvc4 : List (Nat × Int64) := []
def zx_pLc4 : List Nat := []
def zx_Kc4 : List (Nat × (Nat × Nat × Nat × Nat)) := [(3, 5, 0, 1, 0)]
def zx_pTc4 : List Nat := []
def zx_pKc4 : List (List Nat) := [[1196, 1032, 1033]]
-- OperaHouse$Ledger
def zx_oc5 : String := "OperaHouse$Ledger"
def zx_Fc5 : List (Nat × (Nat × Nat × Nat × Bool)) := [(9, 5, 1, 3, true), (15, 5, 2, 3, true), (18, 5, 3, 3, true), (21, 5, 4, 3, true), (25, 5, 6, 3, true), (28, 5, 7, 3, true), (31, 5, 8, 3, true), (34, 5, 10, 3, true), (37, 5, 11, 3, true), (40, 5, 12, 3, true), (43, 5, 13, 3, true), (46, 5, 14, 3, true), (49, 5, 15, 3, true), (52, 5, 16, 3, true), (55, 5, 17, 3, true), (58, 5, 18, 3, true), (61, 5, 0, 0, false), (65, 5, 5, 0, false), (72, 5, 9, 0, false)]
def zx_pFc5 : List Nat := [2009, 2010, 2011, 2012, 2015, 2016, 2017, 2020, 2021, 2022, 2023, 2028, 2030, 2033, 2034, 2035, 2007, 2013, 2018]
def zx_Fic5 : List (Nat × (Nat × Nat × Nat × Bool)) := [(9, 5, 1, 3, true), (15, 5, 2, 3, true), (18, 5, 3, 3, true), (21, 5, 4, 3, true), (25, 5, 6, 3, true), (28, 5, 7, 3, true), (31, 5, 8, 3, true), (34, 5, 10, 3, true), (37, 5, 11, 3, true), (40, 5, 12, 3, true), (43, 5, 13, 3, true), (46, 5, 14, 3, true), (49, 5, 15, 3, true), (52, 5, 16, 3, true), (55, 5, 17, 3, true), (58, 5, 18, 3, true), (61, 5, 0, 0, false), (65, 5, 5, 0, false), (72, 5, 9, 0, false)]
def zx_pFic5 : List Nat := [2009, 2010, 2011, 2012, 2015, 2016, 2017, 2020, 2021, 2022, 2023, 2028, 2030, 2033, 2034, 2035, 2007, 2013, 2018]
def zx_Sc5 : List (Nat × Nat) := []
def zx_pSc5 : List Nat := []
def zx_Cc5 : List (Nat × Nat) := []
def zx_pCc5 : List (List Nat) := []
def zx_Ic5 : List (Nat × Int) := []
def zx_pIc5 : List Nat := []
def zx_Lc5 : List Nat := []
def zx_Lvc5 : List (Nat × Int64) := []
def zx_pLc5 : List Nat := []
def zx_Kc5 : List (Nat × (Nat × Nat × Nat × Nat)) := [(3, 5, 0, 1, 0), (68, 3, 37, 2, 0), (75, 1, 62, 2, 0), (81, 0, 63, 3, 5)]
def zx_pTc5 : List Nat := []
def zx_pKc5 : List (List Nat) := [[2006, 1032, 1033], [3217, 1001, 3216], [4094, 1019, 4092, 4093], [4098, 1006, 4095, 4096, 4097]]
-- OperaHouse$Wagons
def zx_oc6 : String := "OperaHouse$Wagons"
def zx_Fc6 : List (Nat × (Nat × Nat × Nat × Bool)) := [(9, 8, 0, 3, true), (15, 8, 1, 3, true), (19, 8, 2, 0, false)]
def zx_pFc6 : List Nat := [2083, 2084, 2085]
def zx_Fic6 : List (Nat × (Nat × Nat × Nat × Bool)) := [(9, 8, 0, 3, true), (15, 8, 1, 3, true), (19, 8, 2, 0, false)]
def zx_pFic6 : List Nat := [2083, 2084, 2085]
def zx_Sc6 : List (Nat × Nat) := [(34, 1), (37, 2)]
def zx_pSc6 : List Nat := [0, 0]
def zx_Cc6 : List (Nat × Nat) := []
def zx_pCc6 : List (List Nat) := []
def zx_Ic6 : List (Nat × Int) := []
def zx_pIc6 : List Nat := []
def zx_Lc6 : List Nat := []
def zx_Lvc6 : List (Nat × Int64) := []
def zx_pLc6 : List Nat := []
def zx_Kc6 : List (Nat × (Nat × Nat × Nat × Nat)) := [(3, 5, 0, 1, 0), (23, 0, 80, 2, 8), (27, 0, 82, 2, 8), (30, 1, 83, 1, 0), (40, 1, 84, 2, 0), (44, 0, 79, 1, 8), (47, 0, 85, 2, 8), (51, 0, 81, 2, 8)]
def zx_pTc6 : List Nat := []
def zx_pKc6 : List (List Nat) := [[2082, 1032, 1033], [4170, 1007, 4167, 4169, 24], [4181, 1007, 4178, 4180, 25], [4184, 1007, 4182, 4183], [4189, 1007, 4187, 4188], [4166, 1007, 5078, 4164, 4165], [4195, 1007, 5079, 4193, 4194], [4177, 1007, 5080, 4175, 4176]]
-- OperaHouse$Reader
def zx_oc7 : String := "OperaHouse$Reader"
def zx_Fc7 : List (Nat × (Nat × Nat × Nat × Bool)) := [(15, 7, 6, 3, false), (23, 7, 7, 3, false), (27, 7, 0, 3, true), (31, 7, 1, 0, false), (35, 7, 2, 0, false), (38, 7, 5, 0, false), (41, 7, 8, 0, false), (76, 7, 3, 0, false), (79, 1, 4, 0, false), (92, 1, 0, 3, true), (95, 7, 4, 0, false), (105, 1, 5, 0, false), (115, 1, 7, 0, false)]
def zx_pFc7 : List Nat := [2109, 2110, 2103, 2104, 2105, 2108, 2111, 2106, 1057, 1051, 2107, 1059, 1063]
def zx_Fic7 : List (Nat × (Nat × Nat × Nat × Bool)) := [(15, 7, 6, 3, false), (23, 7, 7, 3, false), (27, 7, 0, 3, true), (31, 7, 1, 0, false), (35, 7, 2, 0, false), (38, 7, 5, 0, false), (41, 7, 8, 0, false), (76, 7, 3, 0, false), (79, 1, 4, 0, false), (95, 7, 4, 0, false), (105, 1, 5, 0, false), (115, 1, 7, 0, false)]
def zx_pFic7 : List Nat := [2109, 2110, 2103, 2104, 2105, 2108, 2111, 2106, 1057, 2107, 1059, 1063]
def zx_Sc7 : List (Nat × Nat) := [(9, 36), (60, 12), (67, 14), (82, 3), (85, 4), (98, 32), (108, 13), (118, 35), (121, 15), (134, 16), (144, 17), (150, 18), (153, 33), (156, 34), (166, 37)]
def zx_pSc7 : List Nat := [2099, 3203, 3218, 0, 0, 3197, 3209, 3124, 3224, 4020, 4018, 4006, 4011, 4012, 3112]
def zx_Cc7 : List (Nat × Nat) := [(20, 1)]
def zx_pCc7 : List (List Nat) := [[2101, 1041, 1003]]
def zx_Ic7 : List (Nat × Int) := []
def zx_pIc7 : List Nat := []
def zx_Lc7 : List Nat := []
def zx_Lvc7 : List (Nat × Int64) := []
def zx_pLc7 : List Nat := []
def zx_Kc7 : List (Nat × (Nat × Nat × Nat × Nat)) := [(3, 5, 0, 1, 0), (22, 2, 2, 1, 0), (44, 0, 3, 1, 1), (47, 0, 27, 1, 7), (56, 0, 31, 2, 7), (63, 0, 35, 1, 7), (70, 0, 38, 1, 7), (73, 0, 32, 2, 7), (88, 0, 33, 3, 7), (101, 0, 34, 2, 7), (111, 0, 36, 3, 1), (124, 0, 39, 2, 7), (127, 0, 45, 2, 1), (131, 0, 40, 2, 7), (137, 0, 43, 4, 1), (141, 0, 41, 2, 7), (147, 0, 42, 1, 999), (159, 0, 44, 2, 7), (162, 3, 18, 3, 0), (169, 1, 28, 1, 0), (172, 1, 29, 1, 0), (175, 0, 30, 1, 7), (179, 1, 243, 3, 0)]
def zx_pTc7 : List Nat := [9070, 9071]
def zx_pKc7 : List (List Nat) := [[2098, 1032, 1033], [1044, 1003, 2102, 1043], [1049, 1003, 3107, 1047, 1048], [3111, 1008, 3108, 3110, 3], [3183, 1008, 3180, 3182, 5], [3208, 1008, 3205, 3207, 9], [3223, 1008, 3220, 3222, 10], [3187, 1008, 3184, 3186, 6], [3195, 1008, 3192, 3194, 7], [3202, 1008, 3199, 3201, 8], [3214, 1003, 3211, 3212, 3213], [3229, 1008, 3226, 3228, 11], [4025, 1003, 4022, 4023, 4024], [3233, 1008, 3230, 3232, 12], [4010, 1003, 4007, 4008, 4009], [3237, 1008, 3234, 3236, 13], [4001, 1010, 3238, 3239, 4000], [4017, 1008, 4014, 4016, 14], [3073, 1001, 3072], [3116, 1008, 3114, 3115], [3119, 1008, 3117, 3118], [3123, 1008, 3120, 3122, 4], [3128, 1010, 3126, 3127]]
-- OperaHouse$Walk
def zx_oc8 : String := "OperaHouse$Walk"
def zx_Fc8 : List (Nat × (Nat × Nat × Nat × Bool)) := [(9, 9, 3, 3, true), (15, 9, 4, 3, true), (18, 9, 5, 3, true), (21, 9, 6, 3, true), (24, 9, 8, 3, true), (27, 9, 0, 3, true), (31, 9, 1, 3, true), (35, 9, 2, 3, true), (39, 0, 5, 3, true), (44, 5, 18, 3, true), (49, 0, 0, 0, false), (53, 0, 4, 3, true), (56, 0, 3, 3, true), (59, 0, 2, 3, true), (69, 0, 7, 3, true), (84, 2, 5, 3, true), (89, 6, 3, 0, false), (94, 6, 7, 3, true), (101, 0, 1, 3, true), (120, 2, 6, 3, true), (130, 1, 0, 3, true), (137, 9, 7, 0, false), (144, 1, 6, 0, false), (166, 6, 2, 0, false), (169, 5, 13, 3, true), (172, 5, 14, 3, true), (191, 5, 15, 3, true)]
def zx_pFc8 : List Nat := [2141, 2144, 2145, 2146, 2148, 2138, 2139, 2140, 1216, 2036, 1199, 1213, 1210, 1207, 1223, 1150, 1102, 1111, 1203, 1154, 1052, 2147, 1061, 1099, 2025, 2029, 2031]
def zx_Fic8 : List (Nat × (Nat × Nat × Nat × Bool)) := [(9, 9, 3, 3, true), (15, 9, 4, 3, true), (18, 9, 5, 3, true), (21, 9, 6, 3, true), (24, 9, 8, 3, true), (27, 9, 0, 3, true), (31, 9, 1, 3, true), (35, 9, 2, 3, true), (49, 0, 0, 0, false), (89, 6, 3, 0, false), (137, 9, 7, 0, false), (144, 1, 6, 0, false), (166, 6, 2, 0, false)]
def zx_pFic8 : List Nat := [2141, 2144, 2145, 2146, 2148, 2138, 2139, 2140, 1199, 1102, 2147, 1061, 1099]
def zx_Sc8 : List (Nat × Nat) := []
def zx_pSc8 : List Nat := []
def zx_Cc8 : List (Nat × Nat) := []
def zx_pCc8 : List (List Nat) := []
def zx_Ic8 : List (Nat × Int) := [(157, 32768), (187, 64768)]
def zx_pIc8 : List Nat := [4225, 5094]
def zx_Lc8 : List Nat := []
def zx_Lvc8 : List (Nat × Int64) := []
def zx_pLc8 : List Nat := []
def zx_Kc8 : List (Nat × (Nat × Nat × Nat × Nat)) := [(3, 5, 0, 1, 0), (62, 0, 89, 3, 5), (66, 0, 75, 2, 0), (72, 6, 0, 0, 0), (77, 0, 90, 3, 9), (80, 0, 68, 2, 0), (97, 0, 103, 3, 5), (104, 0, 92, 3, 5), (107, 1, 62, 2, 0), (113, 0, 104, 3, 5), (116, 0, 105, 3, 9), (124, 0, 106, 2, 1), (133, 0, 88, 2, 9), (140, 0, 91, 3, 9), (147, 0, 93, 5, 9), (151, 0, 76, 3, 0), (154, 0, 67, 3, 0), (158, 0, 94, 4, 2), (162, 0, 96, 4, 9), (175, 0, 87, 2, 9), (178, 9, 0, 0, 0), (184, 0, 63, 3, 5), (188, 0, 102, 3, 9), (194, 0, 95, 4, 2)]
def zx_pTc8 : List Nat := []
def zx_pKc8 : List (List Nat) := [[2137, 1032, 1033], [4211, 1006, 4208, 4209, 4210], [4150, 1005, 4222, 4148, 4149], [4212, 4172, 1020, 4173], [4216, 1011, 4213, 4215, 27], [4119, 1005, 4217, 4117, 4118], [5037, 1006, 5034, 5035, 5036], [4229, 1006, 4226, 4227, 4228], [4094, 1019, 5038, 4093], [5042, 1006, 5039, 5040, 5041], [5046, 1011, 5043, 5045, 30], [5050, 1003, 5047, 5048, 5049], [4207, 1011, 4204, 4206, 26], [4221, 1011, 4218, 4220, 28], [4233, 1011, 4230, 4232, 29], [4154, 1005, 4223, 4152, 4153], [4115, 1005, 4224, 4113, 4114], [4237, 1002, 4234, 4235, 4236], [5008, 1011, 5005, 5006, 5007], [4203, 1011, 5089, 4201, 4202], [5090, 5092, 5091, 1025], [4098, 1006, 5093, 4096, 4097], [5033, 1011, 5103, 5031, 5032], [5001, 1002, 5104, 4239, 5000]]
-- OperaHouse$Judge
def zx_oc9 : String := "OperaHouse$Judge"
def zx_Fc9 : List (Nat × (Nat × Nat × Nat × Bool)) := [(9, 3, 5, 3, true), (15, 3, 0, 3, true), (19, 3, 1, 3, true), (23, 3, 2, 3, true), (27, 3, 3, 3, true), (31, 3, 4, 3, true), (41, 9, 3, 3, true), (44, 0, 0, 0, false), (50, 0, 7, 3, true), (72, 2, 1, 0, false), (80, 0, 4, 3, true), (96, 0, 2, 3, true), (105, 0, 3, 3, true), (111, 2, 5, 3, true), (115, 0, 5, 3, true), (117, 6, 1, 0, false), (135, 0, 6, 3, true), (144, 0, 1, 3, true), (154, 2, 2, 0, false), (157, 2, 3, 0, false), (160, 6, 4, 1, false), (164, 6, 3, 0, false), (167, 5, 13, 3, true)]
def zx_pFc9 : List Nat := [2180, 2174, 2175, 2176, 2177, 2178, 2142, 1198, 1222, 1139, 1214, 1208, 1211, 1151, 1217, 1096, 1220, 1204, 1143, 1145, 1105, 1103, 2026]
def zx_Fic9 : List (Nat × (Nat × Nat × Nat × Bool)) := [(9, 3, 5, 3, true), (15, 3, 0, 3, true), (19, 3, 1, 3, true), (23, 3, 2, 3, true), (27, 3, 3, 3, true), (31, 3, 4, 3, true), (44, 0, 0, 0, false), (72, 2, 1, 0, false), (117, 6, 1, 0, false), (154, 2, 2, 0, false), (157, 2, 3, 0, false), (160, 6, 4, 1, false), (164, 6, 3, 0, false)]
def zx_pFic9 : List Nat := [2180, 2174, 2175, 2176, 2177, 2178, 1198, 1139, 1096, 1143, 1145, 1105, 1103]
def zx_Sc9 : List (Nat × Nat) := []
def zx_pSc9 : List Nat := []
def zx_Cc9 : List (Nat × Nat) := []
def zx_pCc9 : List (List Nat) := []
def zx_Ic9 : List (Nat × Int) := []
def zx_pIc9 : List Nat := []
def zx_Lc9 : List Nat := []
def zx_Lvc9 : List (Nat × Int64) := []
def zx_pLc9 : List Nat := []
def zx_Kc9 : List (Nat × (Nat × Nat × Nat × Nat)) := [(3, 5, 0, 1, 0), (35, 1, 62, 2, 0), (53, 0, 66, 2, 3), (57, 0, 69, 2, 3), (60, 0, 71, 2, 3), (63, 0, 73, 2, 3), (66, 0, 77, 2, 3), (69, 0, 78, 1, 3), (77, 0, 87, 2, 9), (83, 0, 67, 3, 0), (87, 0, 68, 2, 0), (91, 0, 79, 1, 8), (99, 6, 0, 0, 0), (108, 0, 81, 2, 8), (122, 0, 85, 2, 8), (125, 0, 86, 2, 8), (128, 0, 70, 4, 3), (132, 7, 0, 0, 0), (138, 0, 72, 3, 2), (141, 0, 74, 2, 3), (147, 0, 75, 2, 0), (151, 0, 76, 3, 0)]
def zx_pTc9 : List Nat := []
def zx_pKc9 : List (List Nat) := [[2173, 1032, 1033], [4094, 1019, 4107, 4093], [4111, 1012, 4108, 4110, 16], [4123, 1012, 4120, 4122, 17], [4134, 1012, 4131, 4133, 19], [4142, 1012, 4139, 4141, 20], [4158, 1012, 4155, 4157, 22], [4162, 1012, 4159, 4161, 23], [4203, 1011, 4200, 4201, 4202], [4115, 1005, 4112, 4113, 4114], [4119, 1005, 4116, 4117, 4118], [4166, 1007, 4163, 4164, 4165], [4171, 4172, 1020, 4173], [4177, 1007, 4174, 4175, 4176], [4195, 1007, 4192, 4193, 4194], [4199, 1007, 4196, 4197, 4198], [4127, 1012, 4124, 4126, 18], [4128, 4129, 1020, 4130], [4138, 1002, 4135, 4136, 4137], [4146, 1012, 4143, 4145, 21], [4150, 1005, 4147, 4148, 4149], [4154, 1005, 4151, 4152, 4153]]
-- OperaHouse$Layer
def zx_oc10 : String := "OperaHouse$Layer"
def zx_Fc10 : List (Nat × (Nat × Nat × Nat × Bool)) := [(9, 4, 4, 3, true), (15, 4, 5, 3, true), (18, 4, 6, 3, true), (21, 4, 7, 3, true), (24, 4, 10, 3, true), (27, 4, 0, 3, true), (31, 4, 1, 3, true), (35, 4, 2, 3, true), (39, 4, 3, 3, true), (43, 4, 11, 0, false), (47, 4, 12, 1, false), (55, 0, 0, 0, false), (66, 2, 5, 3, true), (70, 6, 0, 0, false), (79, 4, 8, 0, false), (82, 4, 9, 0, false), (90, 3, 5, 3, true), (99, 3, 4, 3, true), (103, 9, 3, 3, true), (139, 5, 13, 3, true)]
def zx_pFc10 : List Nat := [2205, 2206, 2207, 2208, 2211, 2201, 2202, 2203, 2204, 2213, 2215, 1200, 1149, 1093, 2209, 2210, 2181, 2179, 2143, 2024]
def zx_Fic10 : List (Nat × (Nat × Nat × Nat × Bool)) := [(9, 4, 4, 3, true), (15, 4, 5, 3, true), (18, 4, 6, 3, true), (21, 4, 7, 3, true), (24, 4, 10, 3, true), (27, 4, 0, 3, true), (31, 4, 1, 3, true), (35, 4, 2, 3, true), (39, 4, 3, 3, true), (43, 4, 11, 0, false), (47, 4, 12, 1, false), (55, 0, 0, 0, false), (70, 6, 0, 0, false), (79, 4, 8, 0, false), (82, 4, 9, 0, false)]
def zx_pFic10 : List Nat := [2205, 2206, 2207, 2208, 2211, 2201, 2202, 2203, 2204, 2213, 2215, 1200, 1093, 2209, 2210]
def zx_Sc10 : List (Nat × Nat) := []
def zx_pSc10 : List Nat := []
def zx_Cc10 : List (Nat × Nat) := []
def zx_pCc10 : List (List Nat) := []
def zx_Ic10 : List (Nat × Int) := []
def zx_pIc10 : List Nat := []
def zx_Lc10 : List Nat := []
def zx_Lvc10 : List (Nat × Int64) := []
def zx_pLc10 : List Nat := []
def zx_Kc10 : List (Nat × (Nat × Nat × Nat × Nat)) := [(3, 5, 0, 1, 0), (51, 3, 18, 3, 0), (60, 0, 49, 2, 2), (75, 0, 121, 2, 0), (85, 0, 65, 1, 3), (93, 9, 0, 0, 0), (106, 0, 123, 2, 4), (110, 0, 125, 2, 4), (113, 0, 128, 2, 4), (116, 0, 129, 2, 4), (119, 0, 130, 3, 4), (123, 0, 126, 2, 4), (126, 0, 127, 3, 4), (129, 0, 63, 3, 5), (135, 0, 53, 7, 0), (142, 0, 124, 1, 0), (145, 0, 57, 5, 5)]
def zx_pTc10 : List Nat := []
def zx_pKc10 : List (List Nat) := [[2200, 1032, 1033], [3073, 1001, 3072], [4041, 1002, 5122, 4039, 4040], [5126, 1005, 5123, 5124, 5125], [4106, 1012, 5131, 4104, 4105], [5132, 5092, 5091, 1025], [5136, 1013, 5133, 5135, 32], [5145, 1013, 5142, 5144, 33], [5158, 1013, 5155, 5157, 36], [5162, 1013, 5159, 5161, 37], [5166, 1013, 5163, 5165, 38], [5149, 1013, 5146, 5148, 34], [5154, 1013, 5151, 5153, 35], [4098, 1006, 5141, 4096, 4097], [4058, 1005, 5150, 4056, 4057], [5140, 1005, 5137, 5138, 5139], [4074, 1006, 5183, 4072, 4073]]
-- OperaHouse$Token
def zx_oc11 : String := "OperaHouse$Token"
def zx_Fc11 : List (Nat × (Nat × Nat × Nat × Bool)) := []
def zx_pFc11 : List Nat := []
def zx_Fic11 : List (Nat × (Nat × Nat × Nat × Bool)) := []
def zx_pFic11 : List Nat := []
def zx_Sc11 : List (Nat × Nat) := [(36, 18), (81, 33), (93, 37)]
def zx_pSc11 : List Nat := [4002, 4004, 3179]
def zx_Cc11 : List (Nat × Nat) := []
def zx_pCc11 : List (List Nat) := []
def zx_Ic11 : List (Nat × Int) := []
def zx_pIc11 : List Nat := []
def zx_Lc11 : List Nat := []
def zx_Lvc11 : List (Nat × Int64) := []
def zx_pLc11 : List Nat := []
def zx_Kc11 : List (Nat × (Nat × Nat × Nat × Nat)) := []
def zx_pTc11 : List Nat := [9072]
def zx_pKc11 : List (List Nat) := []
-- java/util/Arrays
def zx_oc12 : String := "java/util/Arrays"
def zx_Fc12 : List (Nat × (Nat × Nat × Nat × Bool)) := []
def zx_pFc12 : List Nat := []
def zx_Fic12 : List (Nat × (Nat × Nat × Nat × Bool)) := []
def zx_pFic12 : List Nat := []
def zx_Sc12 : List (Nat × Nat) := []
def zx_pSc12 : List Nat := []
def zx_Cc12 : List (Nat × Nat) := []
def zx_pCc12 : List (List Nat) := []
def zx_Ic12 : List (Nat × Int) := []
def zx_pIc12 : List Nat := []
def zx_Lc12 : List Nat := []
def zx_Lvc12 : List (Nat × Int64) := []
def zx_pLc12 : List Nat := []
def zx_Kc12 : List (Nat × (Nat × Nat × Nat × Nat)) := []
def zx_pTc12 : List Nat := []
def zx_pKc12 : List (List Nat) := []
-- OperaHouseModel
def zx_oc13 : String := "OperaHouseModel"
def zx_Fc13 : List (Nat × (Nat × Nat × Nat × Bool)) := [(7, 11, 1, 3, true), (13, 11, 7, 3, true), (17, 11, 8, 3, true), (20, 11, 9, 3, true), (23, 11, 10, 3, true), (26, 11, 11, 3, true), (29, 11, 12, 3, true), (32, 11, 13, 3, true), (35, 11, 14, 3, true), (38, 11, 15, 3, true), (41, 11, 16, 3, true), (45, 11, 17, 3, true), (48, 11, 18, 3, true), (51, 11, 19, 3, true), (54, 11, 20, 3, true), (57, 11, 23, 0, false), (61, 11, 24, 0, false), (64, 11, 25, 3, true), (67, 11, 26, 3, true), (70, 11, 27, 3, true), (73, 11, 28, 3, true), (76, 11, 29, 3, true), (79, 11, 30, 3, true), (82, 11, 31, 3, true), (85, 11, 32, 3, true), (88, 11, 33, 3, true), (91, 11, 34, 3, true), (94, 11, 35, 3, true), (97, 11, 36, 3, true), (100, 11, 48, 3, true), (103, 11, 49, 3, true), (106, 11, 50, 3, true), (109, 11, 51, 3, true), (112, 11, 52, 3, true), (115, 11, 53, 3, true), (118, 11, 54, 3, true), (121, 11, 55, 3, true), (124, 11, 56, 3, true), (127, 11, 57, 3, true), (130, 11, 58, 3, true), (133, 11, 59, 3, true), (136, 11, 60, 3, true), (139, 11, 61, 3, true), (142, 11, 62, 3, true), (145, 11, 63, 3, true), (148, 11, 64, 3, true), (151, 11, 65, 3, true), (154, 11, 66, 3, true), (157, 11, 72, 3, true), (160, 11, 73, 3, true), (163, 11, 74, 3, true), (166, 11, 75, 3, true), (169, 11, 76, 3, true), (172, 11, 77, 3, true), (175, 11, 79, 3, true), (178, 11, 80, 3, true), (181, 11, 81, 3, true), (184, 11, 82, 3, true), (187, 11, 83, 3, true), (190, 11, 84, 3, true), (193, 11, 85, 3, true), (196, 11, 86, 3, true), (199, 11, 87, 3, true), (202, 11, 90, 3, true), (205, 11, 91, 3, true), (208, 11, 92, 3, true), (211, 11, 93, 3, true), (214, 11, 94, 3, true), (217, 11, 95, 3, true), (220, 11, 96, 3, true), (223, 11, 100, 0, false), (226, 11, 0, 0, false), (229, 11, 2, 0, false), (236, 11, 3, 0, false), (239, 11, 4, 0, false), (246, 11, 5, 0, false), (249, 11, 6, 0, false), (255, 11, 21, 0, false), (258, 11, 22, 0, false), (272, 11, 41, 0, false), (275, 11, 42, 0, false), (278, 11, 40, 0, false), (288, 11, 43, 0, false), (291, 11, 47, 2, false), (295, 11, 44, 0, false), (298, 11, 45, 0, false), (313, 11, 46, 0, false), (316, 11, 37, 0, false), (319, 11, 39, 0, false), (381, 11, 38, 0, false), (417, 11, 67, 0, false), (423, 11, 70, 0, false), (430, 11, 69, 0, false), (440, 11, 68, 0, false), (443, 11, 78, 0, false), (446, 11, 71, 0, false), (551, 11, 88, 0, false), (570, 11, 89, 0, false), (596, 11, 98, 0, false), (599, 11, 97, 0, false), (608, 11, 99, 0, false)]
def zx_pFc13 : List Nat := [6029, 6035, 6036, 6037, 6038, 6039, 6040, 6041, 6042, 6043, 6044, 6045, 6046, 6047, 6048, 6051, 6052, 6053, 6054, 6055, 6056, 6057, 6058, 6059, 6060, 6061, 6062, 6063, 6064, 6076, 6077, 6078, 6079, 6080, 6081, 6082, 6083, 6084, 6085, 6086, 6087, 6088, 6089, 6090, 6091, 6092, 6093, 6094, 6100, 6101, 6102, 6103, 6104, 6105, 6107, 6108, 6109, 6110, 6111, 6112, 6113, 6114, 6115, 6118, 6119, 6120, 6121, 6122, 6123, 6124, 6128, 6028, 6030, 6031, 6032, 6033, 6034, 6049, 6050, 6069, 6070, 6068, 6071, 6075, 6072, 6073, 6074, 6065, 6067, 6066, 6095, 6098, 6097, 6096, 6106, 6099, 6116, 6117, 6126, 6125, 6127]
def zx_Fic13 : List (Nat × (Nat × Nat × Nat × Bool)) := [(7, 11, 1, 3, true), (13, 11, 7, 3, true), (17, 11, 8, 3, true), (20, 11, 9, 3, true), (23, 11, 10, 3, true), (26, 11, 11, 3, true), (29, 11, 12, 3, true), (32, 11, 13, 3, true), (35, 11, 14, 3, true), (38, 11, 15, 3, true), (41, 11, 16, 3, true), (45, 11, 17, 3, true), (48, 11, 18, 3, true), (51, 11, 19, 3, true), (54, 11, 20, 3, true), (57, 11, 23, 0, false), (61, 11, 24, 0, false), (64, 11, 25, 3, true), (67, 11, 26, 3, true), (70, 11, 27, 3, true), (73, 11, 28, 3, true), (76, 11, 29, 3, true), (79, 11, 30, 3, true), (82, 11, 31, 3, true), (85, 11, 32, 3, true), (88, 11, 33, 3, true), (91, 11, 34, 3, true), (94, 11, 35, 3, true), (97, 11, 36, 3, true), (100, 11, 48, 3, true), (103, 11, 49, 3, true), (106, 11, 50, 3, true), (109, 11, 51, 3, true), (112, 11, 52, 3, true), (115, 11, 53, 3, true), (118, 11, 54, 3, true), (121, 11, 55, 3, true), (124, 11, 56, 3, true), (127, 11, 57, 3, true), (130, 11, 58, 3, true), (133, 11, 59, 3, true), (136, 11, 60, 3, true), (139, 11, 61, 3, true), (142, 11, 62, 3, true), (145, 11, 63, 3, true), (148, 11, 64, 3, true), (151, 11, 65, 3, true), (154, 11, 66, 3, true), (157, 11, 72, 3, true), (160, 11, 73, 3, true), (163, 11, 74, 3, true), (166, 11, 75, 3, true), (169, 11, 76, 3, true), (172, 11, 77, 3, true), (175, 11, 79, 3, true), (178, 11, 80, 3, true), (181, 11, 81, 3, true), (184, 11, 82, 3, true), (187, 11, 83, 3, true), (190, 11, 84, 3, true), (193, 11, 85, 3, true), (196, 11, 86, 3, true), (199, 11, 87, 3, true), (202, 11, 90, 3, true), (205, 11, 91, 3, true), (208, 11, 92, 3, true), (211, 11, 93, 3, true), (214, 11, 94, 3, true), (217, 11, 95, 3, true), (220, 11, 96, 3, true), (223, 11, 100, 0, false), (226, 11, 0, 0, false), (229, 11, 2, 0, false), (236, 11, 3, 0, false), (239, 11, 4, 0, false), (246, 11, 5, 0, false), (249, 11, 6, 0, false), (255, 11, 21, 0, false), (258, 11, 22, 0, false), (272, 11, 41, 0, false), (275, 11, 42, 0, false), (278, 11, 40, 0, false), (288, 11, 43, 0, false), (291, 11, 47, 2, false), (295, 11, 44, 0, false), (298, 11, 45, 0, false), (313, 11, 46, 0, false), (316, 11, 37, 0, false), (319, 11, 39, 0, false), (381, 11, 38, 0, false), (417, 11, 67, 0, false), (423, 11, 70, 0, false), (430, 11, 69, 0, false), (440, 11, 68, 0, false), (443, 11, 78, 0, false), (446, 11, 71, 0, false), (551, 11, 88, 0, false), (570, 11, 89, 0, false), (596, 11, 98, 0, false), (599, 11, 97, 0, false), (608, 11, 99, 0, false)]
def zx_pFic13 : List Nat := [6029, 6035, 6036, 6037, 6038, 6039, 6040, 6041, 6042, 6043, 6044, 6045, 6046, 6047, 6048, 6051, 6052, 6053, 6054, 6055, 6056, 6057, 6058, 6059, 6060, 6061, 6062, 6063, 6064, 6076, 6077, 6078, 6079, 6080, 6081, 6082, 6083, 6084, 6085, 6086, 6087, 6088, 6089, 6090, 6091, 6092, 6093, 6094, 6100, 6101, 6102, 6103, 6104, 6105, 6107, 6108, 6109, 6110, 6111, 6112, 6113, 6114, 6115, 6118, 6119, 6120, 6121, 6122, 6123, 6124, 6128, 6028, 6030, 6031, 6032, 6033, 6034, 6049, 6050, 6069, 6070, 6068, 6071, 6075, 6072, 6073, 6074, 6065, 6067, 6066, 6095, 6098, 6097, 6096, 6106, 6099, 6116, 6117, 6126, 6125, 6127]
def zx_Sc13 : List (Nat × Nat) := []
def zx_pSc13 : List Nat := []
def zx_Cc13 : List (Nat × Nat) := []
def zx_pCc13 : List (List Nat) := []
def zx_Ic13 : List (Nat × Int) := [(520, 100000)]
def zx_pIc13 : List Nat := [8182]
def zx_Lc13 : List Nat := [329, 338, 340, 342, 344, 349, 354, 356, 361, 363, 365, 367, 369, 371, 373, 375, 377, 379, 401, 403, 405]
def zx_Lvc13 : List (Nat × Int64) := [(329, 1919251316), (338, 6578553), (340, 2003133803), (342, 508675318629), (344, 465557354085), (349, 6710629), (354, 29807), (356, 26982), (361, 1919905645), (363, 469786323827), (365, 1718971500), (367, 474214787188), (369, 1818326117), (371, 427071792498), (373, 29676314707714404), (375, 448546566771), (377, 7238760), (379, 1870030194), (401, 6385252), (403, 28530), (405, 7237492)]
def zx_pLc13 : List Nat := [7161, 7174, 7175, 7176, 7177, 7183, 7182, 7188, 7202, 7203, 7204, 7205, 7206, 7207, 7208, 7209, 7210, 7211, 7235, 7236, 7197]
def zx_Kc13 : List (Nat × (Nat × Nat × Nat × Nat)) := [(1, 5, 0, 1, 0), (232, 0, 138, 2, 11), (242, 1, 141, 3, 0), (252, 0, 143, 1, 11), (261, 0, 145, 2, 11), (264, 1, 222, 2, 0), (268, 0, 151, 1, 11), (281, 1, 152, 1, 0), (285, 1, 153, 1, 0), (301, 0, 163, 2, 11), (304, 0, 157, 2, 11), (307, 0, 150, 1, 11), (310, 0, 149, 2, 11), (322, 0, 154, 1, 11), (326, 0, 169, 2, 11), (331, 0, 155, 2, 11), (335, 0, 156, 4, 11), (346, 0, 158, 1, 11), (351, 0, 159, 1, 11), (358, 0, 160, 1, 11), (384, 1, 167, 1, 0), (388, 0, 165, 4, 11), (392, 0, 161, 1, 11), (395, 0, 168, 1, 11), (398, 0, 166, 2, 11), (407, 0, 162, 1, 11), (410, 0, 164, 1, 11), (413, 0, 172, 3, 11), (420, 0, 174, 3, 11), (426, 0, 175, 7, 11), (433, 0, 177, 3, 11), (436, 0, 178, 5, 11), (449, 0, 182, 1, 11), (452, 0, 183, 2, 11), (455, 0, 186, 2, 11), (458, 0, 189, 3, 11), (460, 0, 181, 2, 11), (463, 0, 185, 4, 11), (467, 0, 188, 3, 11), (470, 0, 192, 3, 11), (473, 0, 196, 3, 11), (476, 0, 198, 4, 11), (479, 0, 199, 3, 11), (482, 0, 195, 5, 11), (486, 0, 197, 5, 11), (490, 0, 193, 3, 11), (493, 0, 194, 6, 11), (497, 0, 191, 3, 11), (499, 1, 204, 2, 0), (502, 1, 206, 2, 0), (505, 1, 207, 3, 0), (508, 0, 202, 1, 11), (511, 0, 203, 2, 11), (514, 0, 205, 1, 11), (517, 0, 213, 3, 11), (521, 0, 215, 4, 11), (524, 0, 221, 4, 11), (527, 0, 223, 3, 11), (530, 0, 224, 4, 11), (533, 0, 225, 3, 11), (536, 0, 212, 2, 11), (539, 0, 214, 2, 11), (542, 0, 216, 2, 11), (545, 0, 217, 2, 11), (548, 0, 218, 2, 11), (554, 0, 210, 1, 11), (557, 0, 211, 3, 11), (560, 0, 219, 4, 11), (563, 0, 220, 5, 11), (567, 0, 209, 1, 11), (573, 0, 227, 2, 11), (577, 1, 232, 3, 0), (580, 0, 230, 1, 11), (583, 0, 231, 3, 11), (587, 0, 233, 4, 11), (590, 0, 229, 4, 11), (593, 0, 235, 4, 11), (602, 0, 238, 4, 11), (605, 0, 239, 2, 11)]
def zx_pTc13 : List Nat := []
def zx_pKc13 : List (List Nat) := [[6027, 1032, 1033], [7099, 1014, 7096, 7098, 40], [7110, 1014, 7108, 7109], [7118, 1014, 7115, 7117, 41], [7126, 1014, 7123, 7125, 42], [8209, 1014, 8207, 8208], [7150, 1014, 7147, 7149, 45], [7153, 1014, 7151, 7152], [7156, 1014, 7154, 7155], [7215, 1014, 7212, 7214, 55], [7173, 1014, 7170, 7172, 49], [7146, 1014, 7143, 7145, 44], [7142, 1014, 7139, 7141, 43], [7160, 1014, 7157, 7159, 46], [8000, 1014, 7237, 7239, 60], [7165, 1014, 7162, 7164, 47], [7169, 1014, 7166, 7168, 48], [7181, 1014, 7178, 7180, 50], [7187, 1014, 7184, 7186, 51], [7192, 1014, 7189, 7191, 52], [7230, 1014, 7228, 7229], [7223, 1014, 7220, 7222, 57], [7196, 1014, 7193, 7195, 53], [7234, 1014, 7231, 7233, 59], [7227, 1014, 7224, 7226, 58], [7201, 1014, 7198, 7200, 54], [7219, 1014, 7216, 7218, 56], [8012, 1014, 8009, 8011, 61], [8020, 1014, 8017, 8019, 62], [8024, 1014, 8021, 8023, 63], [8032, 1014, 8029, 8031, 64], [8036, 1014, 8033, 8035, 65], [8052, 1014, 8049, 8051, 67], [8056, 1014, 8053, 8055, 68], [8068, 1014, 8065, 8067, 70], [8080, 1014, 8077, 8079, 72], [8048, 1014, 8045, 8047, 66], [8064, 1014, 8061, 8063, 69], [8076, 1014, 8073, 8075, 71], [8092, 1014, 8089, 8091, 74], [8108, 1014, 8105, 8107, 78], [8116, 1014, 8113, 8115, 80], [8120, 1014, 8117, 8119, 81], [8104, 1014, 8101, 8103, 77], [8112, 1014, 8109, 8111, 79], [8096, 1014, 8093, 8095, 75], [8100, 1014, 8097, 8099, 76], [8088, 1014, 8085, 8087, 73], [8139, 1014, 8137, 8138], [8146, 1014, 8144, 8145], [8149, 1014, 8147, 8148], [8132, 1014, 8129, 8131, 82], [8136, 1014, 8133, 8135, 83], [8143, 1014, 8140, 8142, 84], [8173, 1014, 8170, 8172, 89], [8181, 1014, 8178, 8180, 91], [8206, 1014, 8203, 8205, 97], [8213, 1014, 8210, 8212, 98], [8217, 1014, 8214, 8216, 99], [8221, 1014, 8218, 8220, 100], [8169, 1014, 8166, 8168, 88], [8177, 1014, 8174, 8176, 90], [8186, 1014, 8183, 8185, 92], [8190, 1014, 8187, 8189, 93], [8194, 1014, 8191, 8193, 94], [8161, 1014, 8158, 8160, 86], [8165, 1014, 8162, 8164, 87], [8198, 1014, 8195, 8197, 95], [8202, 1014, 8199, 8201, 96], [8157, 1014, 8154, 8156, 85], [8229, 1014, 8226, 8228, 101], [9008, 1014, 9006, 9007], [9001, 1014, 8238, 9000, 103], [9005, 1014, 9002, 9004, 104], [9012, 1014, 9009, 9011, 105], [8237, 1014, 8234, 8236, 102], [9020, 1014, 9017, 9019, 106], [9032, 1014, 9029, 9031, 107], [9036, 1014, 9033, 9035, 108]]
-- OperaHouseLaw
def zx_oc14 : String := "OperaHouseLaw"
def zx_Fc14 : List (Nat × (Nat × Nat × Nat × Bool)) := []
def zx_pFc14 : List Nat := []
def zx_Fic14 : List (Nat × (Nat × Nat × Nat × Bool)) := []
def zx_pFic14 : List Nat := []
def zx_Sc14 : List (Nat × Nat) := []
def zx_pSc14 : List Nat := []
def zx_Cc14 : List (Nat × Nat) := [(8, 10), (16, 11)]
def zx_pCc14 : List (List Nat) := [[1026, 1027, 1001], [6022, 6023, 1014]]
def zx_Ic14 : List (Nat × Int) := []
def zx_pIc14 : List Nat := []
def zx_Lc14 : List Nat := []
def zx_Lvc14 : List (Nat × Int64) := []
def zx_pLc14 : List Nat := []
def zx_Kc14 : List (Nat × (Nat × Nat × Nat × Nat)) := [(15, 2, 0, 1, 0), (18, 2, 136, 1, 0), (19, 0, 12, 6, 10), (23, 0, 137, 6, 11), (24, 0, 14, 2, 10), (28, 0, 139, 2, 11), (29, 0, 15, 2, 10), (33, 0, 140, 2, 11), (34, 0, 16, 5, 10), (38, 0, 142, 5, 11), (39, 0, 21, 4, 10), (43, 0, 144, 4, 11), (44, 0, 22, 4, 10), (48, 0, 146, 4, 11), (49, 0, 23, 3, 10), (53, 0, 147, 3, 11), (54, 0, 24, 2, 10), (57, 0, 148, 2, 11), (58, 0, 46, 1, 10), (62, 0, 170, 1, 11), (63, 0, 47, 5, 10), (67, 0, 171, 5, 11), (68, 0, 51, 6, 10), (71, 0, 173, 6, 11), (72, 0, 54, 5, 10), (76, 0, 176, 5, 11), (77, 0, 58, 4, 10), (80, 0, 179, 4, 11), (81, 0, 60, 5, 10), (84, 0, 180, 5, 11), (85, 0, 64, 2, 10), (88, 0, 208, 2, 11), (94, 0, 226, 3, 11), (95, 0, 98, 5, 10), (99, 0, 184, 5, 11), (100, 0, 99, 4, 10), (103, 0, 187, 4, 11), (104, 0, 101, 4, 10), (107, 0, 190, 4, 11), (108, 0, 110, 4, 10), (111, 0, 200, 4, 11), (112, 0, 111, 3, 10), (115, 0, 201, 3, 11), (116, 0, 113, 4, 10), (119, 0, 228, 4, 11), (120, 0, 115, 4, 10), (123, 0, 234, 4, 11), (124, 0, 117, 3, 10), (127, 0, 236, 3, 11), (128, 0, 118, 4, 10), (131, 0, 237, 4, 11), (132, 0, 131, 2, 10), (135, 0, 240, 2, 11), (136, 0, 132, 1, 10), (139, 0, 241, 1, 11), (140, 0, 135, 2, 10), (143, 0, 242, 2, 11)]
def zx_pTc14 : List Nat := []
def zx_pKc14 : List (List Nat) := [[1030, 1001, 1028, 1029], [6026, 1014, 6024, 6025], [3050, 1001, 3047, 3048, 3049], [7095, 1014, 7092, 7093, 7094], [3058, 1001, 3055, 3056, 3057], [7103, 1014, 7100, 7101, 7102], [3062, 1001, 3059, 3060, 3061], [7107, 1014, 7104, 7105, 7106], [3066, 1001, 3063, 3064, 3065], [7114, 1014, 7111, 7112, 7113], [3086, 1001, 3083, 3084, 3085], [7122, 1014, 7119, 7120, 7121], [3090, 1001, 3087, 3088, 3089], [7130, 1014, 7127, 7128, 7129], [3094, 1001, 3091, 3092, 3093], [7134, 1014, 7131, 7132, 7133], [3098, 1001, 3095, 3096, 3097], [7138, 1014, 7135, 7136, 7137], [4029, 1001, 4026, 4027, 4028], [8004, 1014, 8001, 8002, 8003], [4033, 1001, 4030, 4031, 4032], [8008, 1014, 8005, 8006, 8007], [4049, 1001, 4046, 4047, 4048], [8016, 1014, 8013, 8014, 8015], [4062, 1001, 4059, 4060, 4061], [8028, 1014, 8025, 8026, 8027], [4078, 1001, 4075, 4076, 4077], [8040, 1014, 8037, 8038, 8039], [4087, 1001, 4084, 4085, 4086], [8044, 1014, 8041, 8042, 8043], [4102, 1001, 4099, 4100, 4101], [8153, 1014, 8150, 8151, 8152], [8225, 1014, 8222, 8223, 8224], [5016, 1001, 5013, 5014, 5015], [8060, 1014, 8057, 8058, 8059], [5021, 1001, 5018, 5019, 5020], [8072, 1014, 8069, 8070, 8071], [5029, 1001, 5026, 5027, 5028], [8084, 1014, 8081, 8082, 8083], [5069, 1001, 5066, 5067, 5068], [8124, 1014, 8121, 8122, 8123], [5073, 1001, 5070, 5071, 5072], [8128, 1014, 8125, 8126, 8127], [5084, 1001, 5081, 5082, 5083], [8233, 1014, 8230, 8231, 8232], [5098, 1001, 5095, 5096, 5097], [9016, 1014, 9013, 9014, 9015], [5108, 1001, 5105, 5106, 5107], [9024, 1014, 9021, 9022, 9023], [5112, 1001, 5109, 5110, 5111], [9028, 1014, 9025, 9026, 9027], [5170, 1001, 5167, 5168, 5169], [9040, 1014, 9037, 9038, 9039], [5174, 1001, 5171, 5172, 5173], [9044, 1014, 9041, 9042, 9043], [5187, 1001, 5184, 5185, 5186], [9048, 1014, 9045, 9046, 9047]]
def zx_pW0 : List Nat := [1224, 1226, 1228, 1230, 1232, 1234, 1236, 1238]
def zx_pW1 : List Nat := [1065, 1067, 1069, 1071, 1073, 1075, 1077, 1079, 1081]
def zx_pW2 : List Nat := [1166, 1168, 1170, 1172, 1174, 1176, 1178, 1180, 1182, 1184, 1186, 1188]
def zx_pW3 : List Nat := [2182, 2184, 2186, 2188, 2190, 2192]
def zx_pW4 : List Nat := [2217, 2219, 2221, 2223, 2225, 2227, 2229, 2231, 2233, 2235, 2237, 2239, 3001]
def zx_pW5 : List Nat := [2037, 2039, 2041, 2043, 2045, 2047, 2049, 2051, 2053, 2055, 2057, 2059, 2061, 2063, 2065, 2067, 2069, 2071, 2073]
def zx_pW6 : List Nat := [1116, 1118, 1120, 1122, 1124, 1126, 1128, 1130, 1132, 1134]
def zx_pW7 : List Nat := [2113, 2115, 2117, 2119, 2121, 2123, 2125, 2127, 2129]
def zx_pW8 : List Nat := [2086, 2088, 2090]
def zx_pW9 : List Nat := [2149, 2151, 2153, 2155, 2157, 2159, 2161, 2163, 2165]
def zx_pW10 : List Nat := [3018, 3020, 3022, 3024, 3026, 3028, 3030, 3032, 3034, 3036, 3038, 3040, 3042, 3044]
def zx_pW11 : List Nat := [6129, 6131, 6133, 6135, 6137, 6139, 6141, 6143, 6145, 6147, 6149, 6151, 6153, 6155, 6157, 6159, 6161, 6163, 6165, 6167, 6169, 6171, 6173, 6175, 6177, 6179, 6181, 6183, 6185, 6187, 6189, 6191, 6193, 6195, 6197, 6199, 6201, 6203, 6205, 6207, 6209, 6211, 6213, 6215, 6217, 6219, 6221, 6223, 6225, 6227, 6229, 6231, 6233, 6235, 6237, 6239, 7001, 7003, 7005, 7007, 7009, 7011, 7013, 7015, 7017, 7019, 7021, 7023, 7025, 7027, 7029, 7031, 7033, 7035, 7037, 7039, 7041, 7043, 7045, 7047, 7049, 7051, 7053, 7055, 7057, 7059, 7061, 7063, 7065, 7067, 7069, 7071, 7073, 7075, 7077, 7079, 7081, 7083, 7085, 7087, 7089]
end
