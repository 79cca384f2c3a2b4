/-! zx: this program's tables -/
def zx_Ts : List Jvm.Cond := lw_tbl.filter goodWord
def zx_w (i : Nat) (w : Jvm.Cond) : Bool := decide (lw_tbl[i]? = some w) && goodWord w
theorem zx_w_ok {i : Nat} {w : Jvm.Cond} (h : zx_w i w = true) : w ∈ zx_Ts := by
  unfold zx_w at h
  rw [Bool.and_eq_true, decide_eq_true_iff] at h
  exact List.mem_filter.mpr ⟨List.mem_of_getElem? h.1, h.2⟩
def zx_has : List Nat → Nat → Bool
  | [], _ => false
  | q :: r, i => if q = i then true else zx_has r i
def zx_all2 {α : Type} (f : Nat → α → Bool) : List Nat → List α → Bool
  | _, [] => true
  | [], _ :: _ => false
  | i :: p, a :: r => f i a && zx_all2 f p r
theorem zx_all2_ok {α : Type} {f : Nat → α → Bool} : ∀ {p : List Nat} {r : List α} {a : α}, zx_all2 f p r = true → a ∈ r → ∃ i, f i a = true
  | _, [], _, _, h => nomatch h
  | [], _ :: _, _, h, _ => nomatch h
  | i :: p, b :: r, a, h, ha => by
    rw [zx_all2, Bool.and_eq_true] at h
    rcases List.mem_cons.mp ha with e | e
    · subst e; exact ⟨i, h.1⟩
    · exact zx_all2_ok h.2 e
def zx_sts : List (String × String × String × Nat) := [("OperaHouse$Token", "FINISH", "LOperaHouse$Token;", 0), ("OperaHouse", "NEAR", "[I", 1), ("OperaHouse", "WORTH", "[I", 2)]
def zx_Yt : zx_Y := [(1, [1, 2, 3, 0, 4, (-1), 0, (-1), (-1), 0, 4, (-1), 1, 3, (-1)]), (2, [1, 5, 25, 125])]
def zx_aos : List String := ["OperaHouse$Opera", "OperaHouse$Contract"]
def zx_dt : List (List Nat) := [[0, 3, 3, 3, 3, 3, 3, 3],
  [3, 3, 3, 3, 0, 0, 0, 0, 0],
  [0, 0, 0, 0, 3, 3, 3, 3, 3, 3, 3, 3],
  [3, 3, 3, 3, 3, 3],
  [3, 3, 3, 3, 3, 3, 3, 3, 0, 0, 3, 0, 1],
  [0, 3, 3, 3, 3, 0, 3, 3, 3, 0, 3, 3, 3, 3, 3, 3, 3, 3, 3],
  [0, 0, 0, 0, 1, 3, 3, 3, 3, 3],
  [3, 0, 0, 0, 0, 0, 3, 3, 0],
  [3, 3, 0],
  [3, 3, 3, 3, 3, 3, 3, 0, 3],
  [3, 3, 3, 3, 3, 3, 3, 3, 3, 3, 0, 0, 0, 0],
  [0, 3, 0, 0, 0, 0, 0, 3, 3, 3, 3, 3, 3, 3, 3, 3, 3, 3, 3, 3, 3, 0, 0, 0, 0, 3, 3, 3, 3, 3, 3, 3, 3, 3, 3, 3, 3, 0, 0, 0, 0, 0, 0, 0, 0, 0, 0, 2, 3, 3, 3, 3, 3, 3, 3, 3, 3, 3, 3, 3, 3, 3, 3, 3, 3, 3, 3, 0, 0, 0, 0, 0, 3, 3, 3, 3, 3, 3, 0, 3, 3, 3, 3, 3, 3, 3, 3, 3, 0, 0, 3, 3, 3, 3, 3, 3, 3, 0, 0, 0, 0]]
def zx_nw : List Jvm.Cond := [.methodLinkNest "OperaHouse$House" 44 ⟨"OperaHouse$Opera", "<init>", "()V"⟩ "OperaHouse",
  .methodLinkNest "OperaHouse" 25 ⟨"OperaHouse$Calls", "<init>", "()V"⟩ "OperaHouse",
  .methodLinkNest "OperaHouse" 32 ⟨"OperaHouse$Ledger", "<init>", "()V"⟩ "OperaHouse",
  .methodLinkNest "OperaHouse" 39 ⟨"OperaHouse$Wagons", "<init>", "()V"⟩ "OperaHouse",
  .methodLinkNest "OperaHouse$Opera" 35 ⟨"OperaHouse", "within", "(III)Z"⟩ "OperaHouse",
  .fieldLinkNest "OperaHouse$Reader" 82 "OperaHouse" "LIMIT_LEAST" "[I" "OperaHouse",
  .fieldLinkNest "OperaHouse$Reader" 85 "OperaHouse" "LIMIT_MOST" "[I" "OperaHouse",
  .methodLinkNest "OperaHouse$Reader" 162 ⟨"OperaHouse", "within", "(III)Z"⟩ "OperaHouse",
  .methodLinkNest "OperaHouse$Contract" 43 ⟨"OperaHouse", "daysBetween", "(II)I"⟩ "OperaHouse",
  .methodLinkNest "OperaHouse$Ledger" 68 ⟨"OperaHouse", "daysBetween", "(II)I"⟩ "OperaHouse",
  .fieldLinkNest "OperaHouse$Wagons" 37 "OperaHouse" "WORTH" "[I" "OperaHouse",
  .fieldLinkNest "OperaHouse$Wagons" 34 "OperaHouse" "NEAR" "[I" "OperaHouse",
  .methodLinkNest "OperaHouse$Layer" 51 ⟨"OperaHouse", "within", "(III)Z"⟩ "OperaHouse"]
def zx_PRt : zx_PR := [(⟨"OperaHouse", "<init>", "()V"⟩, prog_1_method_1_code, 1, none),
  (⟨"OperaHouse$House", "<init>", "()V"⟩, prog_4_method_1_code, 2, none),
  (⟨"OperaHouse$Contract", "<init>", "()V"⟩, prog_3_method_1_code, 1, none),
  (⟨"OperaHouse$Contract", "blank", "()V"⟩, prog_3_method_2_code, 1, none),
  (⟨"OperaHouse$Opera", "<init>", "()V"⟩, prog_8_method_1_code, 1, none),
  (⟨"OperaHouse$Calls", "<init>", "()V"⟩, prog_2_method_1_code, 1, none),
  (⟨"OperaHouse$Ledger", "<init>", "()V"⟩, prog_7_method_1_code, 1, none),
  (⟨"OperaHouse$Wagons", "<init>", "()V"⟩, prog_11_method_1_code, 1, none),
  (⟨"OperaHouse$Reader", "<init>", "([I)V"⟩, prog_9_method_1_code, 2, none),
  (⟨"OperaHouse$Walk", "<init>", "(LOperaHouse$House;LOperaHouse$Calls;LOperaHouse$Ledger;)V"⟩, prog_12_method_1_code, 4, none),
  (⟨"OperaHouse$Judge", "<init>", "(LOperaHouse$House;LOperaHouse$Calls;LOperaHouse$Ledger;LOperaHouse$Wagons;LOperaHouse$Walk;)V"⟩, prog_5_method_1_code, 6, none),
  (⟨"OperaHouse$Layer", "<init>", "(LOperaHouse$House;LOperaHouse$Calls;LOperaHouse$Ledger;LOperaHouse$Judge;)V"⟩, prog_6_method_1_code, 5, none),
  (⟨"OperaHouse", "feed", "(IIIII)I"⟩, prog_1_method_2_code, 6, Option.some Jvm.ClassFile.FieldType.int),
  (⟨"OperaHouse", "putBytes", "(I)V"⟩, prog_1_method_3_code, 3, none),
  (⟨"OperaHouse", "end", "(I)Z"⟩, prog_1_method_4_code, 2, Option.some Jvm.ClassFile.FieldType.boolean),
  (⟨"OperaHouse", "next", "(I)I"⟩, prog_1_method_6_code, 2, Option.some Jvm.ClassFile.FieldType.int),
  (⟨"OperaHouse", "opera", "(IIZI)I"⟩, prog_1_method_7_code, 7, Option.some Jvm.ClassFile.FieldType.int),
  (⟨"OperaHouse", "emptiedTape", "()I"⟩, prog_1_method_5_code, 2, Option.some Jvm.ClassFile.FieldType.int),
  (⟨"OperaHouse", "within", "(III)Z"⟩, prog_1_method_33_code, 3, Option.some Jvm.ClassFile.FieldType.boolean),
  (⟨"OperaHouse$Opera", "readTape", "([II)Z"⟩, prog_8_method_2_code, 4, Option.some Jvm.ClassFile.FieldType.boolean),
  (⟨"OperaHouse", "singer", "(III)I"⟩, prog_1_method_8_code, 5, Option.some Jvm.ClassFile.FieldType.int),
  (⟨"OperaHouse", "players", "(III)Z"⟩, prog_1_method_9_code, 4, Option.some Jvm.ClassFile.FieldType.boolean),
  (⟨"OperaHouse", "chorus", "(II)Z"⟩, prog_1_method_10_code, 3, Option.some Jvm.ClassFile.FieldType.boolean),
  (⟨"OperaHouse", "contract", "(I)I"⟩, prog_1_method_11_code, 5, Option.some Jvm.ClassFile.FieldType.int),
  (⟨"OperaHouse$House", "isSinger", "(I)Z"⟩, prog_4_method_4_code, 2, Option.some Jvm.ClassFile.FieldType.boolean),
  (⟨"OperaHouse", "fault", "()I"⟩, prog_1_method_12_code, 1, Option.some Jvm.ClassFile.FieldType.int),
  (⟨"OperaHouse", "learn", "(IIII)Z"⟩, prog_1_method_13_code, 5, Option.some Jvm.ClassFile.FieldType.boolean),
  (⟨"OperaHouse$House", "isOpera", "(I)Z"⟩, prog_4_method_2_code, 2, Option.some Jvm.ClassFile.FieldType.boolean),
  (⟨"OperaHouse", "call", "(IIIII)I"⟩, prog_1_method_14_code, 7, Option.some Jvm.ClassFile.FieldType.int),
  (⟨"OperaHouse", "cast", "(IIIZ)Z"⟩, prog_1_method_15_code, 5, Option.some Jvm.ClassFile.FieldType.boolean),
  (⟨"OperaHouse", "isSpot", "(II)Z"⟩, prog_1_method_32_code, 3, Option.some Jvm.ClassFile.FieldType.boolean),
  (⟨"OperaHouse$Calls", "has", "(I)Z"⟩, prog_2_method_2_code, 2, Option.some Jvm.ClassFile.FieldType.boolean),
  (⟨"OperaHouse", "ill", "(III)Z"⟩, prog_1_method_16_code, 4, Option.some Jvm.ClassFile.FieldType.boolean),
  (⟨"OperaHouse", "who", "(IIZI)I"⟩, prog_1_method_17_code, 6, Option.some Jvm.ClassFile.FieldType.int),
  (⟨"OperaHouse$Ledger", "know", "(I)V"⟩, prog_7_method_5_code, 3, none),
  (⟨"java/util/Arrays", "fill", "([II)V"⟩, prog_29_method_103_code, 4, none),
  (⟨"OperaHouse", "wrong", "(I)I"⟩, prog_1_method_18_code, 2, Option.some Jvm.ClassFile.FieldType.int),
  (⟨"OperaHouse$Judge", "run", "()V"⟩, prog_5_method_2_code, 3, none),
  (⟨"OperaHouse$Judge", "judgeSets", "()V"⟩, prog_5_method_5_code, 6, none),
  (⟨"OperaHouse$Wagons", "reset", "()V"⟩, prog_11_method_2_code, 2, none),
  (⟨"OperaHouse$Wagons", "reach", "(I)V"⟩, prog_11_method_3_code, 2, none),
  (⟨"OperaHouse$Wagons", "spread", "(I)V"⟩, prog_11_method_4_code, 6, none),
  (⟨"OperaHouse$Wagons", "moveAll", "(I)V"⟩, prog_11_method_5_code, 6, none),
  (⟨"OperaHouse$Wagons", "freePlace", "(I)I"⟩, prog_11_method_7_code, 3, Option.some Jvm.ClassFile.FieldType.int),
  (⟨"OperaHouse$Wagons", "placeOf", "(II)I"⟩, prog_11_method_6_code, 2, Option.some Jvm.ClassFile.FieldType.int),
  (⟨"OperaHouse$Wagons", "canShow", "(I)Z"⟩, prog_11_method_8_code, 3, Option.some Jvm.ClassFile.FieldType.boolean),
  (⟨"OperaHouse$Judge", "list", "([I)I"⟩, prog_5_method_3_code, 7, Option.some Jvm.ClassFile.FieldType.int),
  (⟨"OperaHouse", "learned", "(IIII)I"⟩, prog_1_method_20_code, 5, Option.some Jvm.ClassFile.FieldType.int),
  (⟨"OperaHouse", "tired", "(III)I"⟩, prog_1_method_21_code, 4, Option.some Jvm.ClassFile.FieldType.int),
  (⟨"OperaHouse", "fee", "(III)I"⟩, prog_1_method_22_code, 4, Option.some Jvm.ClassFile.FieldType.int),
  (⟨"OperaHouse", "pay", "(III)I"⟩, prog_1_method_23_code, 6, Option.some Jvm.ClassFile.FieldType.int),
  (⟨"OperaHouse", "moves", "(II)I"⟩, prog_1_method_24_code, 3, Option.some Jvm.ClassFile.FieldType.int),
  (⟨"OperaHouse$Wagons", "fewest", "(II)I"⟩, prog_11_method_10_code, 4, Option.some Jvm.ClassFile.FieldType.int),
  (⟨"OperaHouse", "may", "(III)Z"⟩, prog_1_method_25_code, 4, Option.some Jvm.ClassFile.FieldType.boolean),
  (⟨"OperaHouse", "harm", "(III)I"⟩, prog_1_method_26_code, 4, Option.some Jvm.ClassFile.FieldType.int),
  (⟨"OperaHouse", "instead", "(II)I"⟩, prog_1_method_27_code, 7, Option.some Jvm.ClassFile.FieldType.int),
  (⟨"OperaHouse", "lay", "(III)I"⟩, prog_1_method_28_code, 5, Option.some Jvm.ClassFile.FieldType.int),
  (⟨"OperaHouse$Layer", "forget", "()V"⟩, prog_6_method_2_code, 1, none),
  (⟨"OperaHouse$Layer", "wish", "([III)Z"⟩, prog_6_method_3_code, 5, Option.some Jvm.ClassFile.FieldType.boolean),
  (⟨"OperaHouse", "laid", "(I)I"⟩, prog_1_method_29_code, 2, Option.some Jvm.ClassFile.FieldType.int),
  (⟨"OperaHouse", "keep", "()I"⟩, prog_1_method_30_code, 1, Option.some Jvm.ClassFile.FieldType.int),
  (⟨"OperaHouse", "count", "(I)I"⟩, prog_1_method_31_code, 2, Option.some Jvm.ClassFile.FieldType.int),
  (⟨"OperaHouseModel", "<init>", "()V"⟩, prog_14_method_1_code, 1, none),
  (⟨"OperaHouseModel", "thrown", "()I"⟩, prog_14_method_2_code, 1, Option.some Jvm.ClassFile.FieldType.int),
  (⟨"OperaHouseModel", "feed", "(IIIII)I"⟩, prog_14_method_4_code, 6, Option.some Jvm.ClassFile.FieldType.int),
  (⟨"OperaHouseModel", "four", "(I)V"⟩, prog_14_method_5_code, 3, none),
  (⟨"OperaHouseModel", "end", "(I)Z"⟩, prog_14_method_6_code, 2, Option.some Jvm.ClassFile.FieldType.boolean),
  (⟨"OperaHouseModel", "next", "(I)I"⟩, prog_14_method_9_code, 2, Option.some Jvm.ClassFile.FieldType.int),
  (⟨"OperaHouseModel", "isIn", "(III)Z"⟩, prog_14_method_8_code, 3, Option.some Jvm.ClassFile.FieldType.boolean),
  (⟨"OperaHouseModel", "opera", "(IIZI)I"⟩, prog_14_method_10_code, 8, Option.some Jvm.ClassFile.FieldType.int),
  (⟨"OperaHouseModel", "taken", "()V"⟩, prog_14_method_7_code, 1, none),
  (⟨"OperaHouseModel", "singer", "(III)I"⟩, prog_14_method_13_code, 4, Option.some Jvm.ClassFile.FieldType.int),
  (⟨"OperaHouseModel", "plain", "(I)V"⟩, prog_14_method_18_code, 2, none),
  (⟨"OperaHouseModel", "players", "(III)Z"⟩, prog_14_method_14_code, 4, Option.some Jvm.ClassFile.FieldType.boolean),
  (⟨"OperaHouseModel", "chorus", "(II)Z"⟩, prog_14_method_15_code, 3, Option.some Jvm.ClassFile.FieldType.boolean),
  (⟨"OperaHouseModel", "contract", "(I)I"⟩, prog_14_method_27_code, 4, Option.some Jvm.ClassFile.FieldType.int),
  (⟨"OperaHouseModel", "isSinger", "(I)Z"⟩, prog_14_method_12_code, 2, Option.some Jvm.ClassFile.FieldType.boolean),
  (⟨"OperaHouseModel", "fault", "()I"⟩, prog_14_method_28_code, 1, Option.some Jvm.ClassFile.FieldType.int),
  (⟨"OperaHouseModel", "learn", "(IIII)Z"⟩, prog_14_method_42_code, 5, Option.some Jvm.ClassFile.FieldType.boolean),
  (⟨"OperaHouseModel", "call", "(IIIII)I"⟩, prog_14_method_45_code, 6, Option.some Jvm.ClassFile.FieldType.int),
  (⟨"OperaHouseModel", "cast", "(IIIZ)Z"⟩, prog_14_method_48_code, 5, Option.some Jvm.ClassFile.FieldType.boolean),
  (⟨"OperaHouseModel", "isCallRole", "(II)Z"⟩, prog_14_method_46_code, 3, Option.some Jvm.ClassFile.FieldType.boolean),
  (⟨"OperaHouseModel", "ill", "(III)Z"⟩, prog_14_method_49_code, 4, Option.some Jvm.ClassFile.FieldType.boolean),
  (⟨"OperaHouseModel", "who", "(IIZI)I"⟩, prog_14_method_62_code, 5, Option.some Jvm.ClassFile.FieldType.int),
  (⟨"OperaHouseModel", "load", "(I)V"⟩, prog_14_method_50_code, 4, none),
  (⟨"OperaHouseModel", "sort", "()V"⟩, prog_14_method_51_code, 3, none),
  (⟨"OperaHouseModel", "learned", "(IIII)I"⟩, prog_14_method_63_code, 5, Option.some Jvm.ClassFile.FieldType.int),
  (⟨"OperaHouseModel", "tired", "(III)I"⟩, prog_14_method_64_code, 4, Option.some Jvm.ClassFile.FieldType.int),
  (⟨"OperaHouseModel", "fee", "(III)I"⟩, prog_14_method_69_code, 4, Option.some Jvm.ClassFile.FieldType.int),
  (⟨"OperaHouseModel", "pay", "(III)I"⟩, prog_14_method_70_code, 6, Option.some Jvm.ClassFile.FieldType.int),
  (⟨"OperaHouseModel", "moves", "(II)I"⟩, prog_14_method_77_code, 4, Option.some Jvm.ClassFile.FieldType.int),
  (⟨"OperaHouseModel", "atFirst", "()V"⟩, prog_14_method_74_code, 2, none),
  (⟨"OperaHouseModel", "canStand", "(I)Z"⟩, prog_14_method_76_code, 3, Option.some Jvm.ClassFile.FieldType.boolean),
  (⟨"OperaHouseModel", "placeOf", "(II)I"⟩, prog_14_method_71_code, 2, Option.some Jvm.ClassFile.FieldType.int),
  (⟨"OperaHouseModel", "goOn", "()Z"⟩, prog_14_method_75_code, 5, Option.some Jvm.ClassFile.FieldType.boolean),
  (⟨"OperaHouseModel", "areNext", "(II)Z"⟩, prog_14_method_73_code, 4, Option.some Jvm.ClassFile.FieldType.boolean),
  (⟨"OperaHouseModel", "moved", "(III)I"⟩, prog_14_method_72_code, 3, Option.some Jvm.ClassFile.FieldType.int),
  (⟨"OperaHouseModel", "wrong", "(I)I"⟩, prog_14_method_93_code, 3, Option.some Jvm.ClassFile.FieldType.int),
  (⟨"OperaHouseModel", "judge", "()V"⟩, prog_14_method_91_code, 6, none),
  (⟨"OperaHouseModel", "roll", "()V"⟩, prog_14_method_78_code, 7, none),
  (⟨"OperaHouseModel", "told", "(II)I"⟩, prog_14_method_94_code, 3, Option.some Jvm.ClassFile.FieldType.int),
  (⟨"OperaHouseModel", "throwsIf", "(Z)Z"⟩, prog_14_method_3_code, 2, Option.some Jvm.ClassFile.FieldType.boolean),
  (⟨"OperaHouseModel", "may", "(III)Z"⟩, prog_14_method_100_code, 4, Option.some Jvm.ClassFile.FieldType.boolean),
  (⟨"OperaHouseModel", "harm", "(III)I"⟩, prog_14_method_101_code, 4, Option.some Jvm.ClassFile.FieldType.int),
  (⟨"OperaHouseModel", "instead", "(II)I"⟩, prog_14_method_102_code, 7, Option.some Jvm.ClassFile.FieldType.int),
  (⟨"OperaHouseModel", "lay", "(III)I"⟩, prog_14_method_105_code, 8, Option.some Jvm.ClassFile.FieldType.int),
  (⟨"OperaHouseModel", "laid", "(I)I"⟩, prog_14_method_106_code, 2, Option.some Jvm.ClassFile.FieldType.int),
  (⟨"OperaHouseModel", "keep", "()I"⟩, prog_14_method_107_code, 5, Option.some Jvm.ClassFile.FieldType.int),
  (⟨"OperaHouseModel", "count", "(I)I"⟩, prog_14_method_108_code, 2, Option.some Jvm.ClassFile.FieldType.int)]
def zx_rmt : List (Nat × Nat) := [(217, 16903), (166, 2821), (4, 101), (0, 0), (5, 36), (7, 420), (16, 6480), (2, 745), (5, 110), (5, 1090), (1, 60), (5, 558), (0, 0), (0, 0), (0, 0), (0, 0), (0, 0), (0, 0), (0, 0), (0, 0), (0, 0), (0, 0), (0, 0), (0, 0), (0, 0), (0, 0), (0, 0), (0, 0), (0, 0), (0, 0), (0, 0), (0, 0), (0, 0), (0, 0), (0, 0), (0, 0), (0, 0), (0, 0), (0, 0), (0, 0), (0, 0), (0, 0), (0, 0), (0, 0), (0, 0), (0, 0), (0, 0), (0, 0), (0, 0), (0, 0), (0, 0), (0, 0), (0, 0), (0, 0), (0, 0), (0, 0), (0, 0), (0, 0), (0, 0), (0, 0), (0, 0), (0, 0), (68, 56070), (0, 0), (0, 0), (0, 0), (0, 0), (0, 0), (0, 0), (0, 0), (0, 0), (0, 0), (0, 0), (0, 0), (0, 0), (0, 0), (0, 0), (0, 0), (0, 0), (0, 0), (0, 0), (0, 0), (0, 0), (0, 0), (0, 0), (0, 0), (0, 0), (0, 0), (0, 0), (0, 0), (0, 0), (0, 0), (0, 0), (0, 0), (0, 0), (0, 0), (0, 0), (0, 0), (0, 0), (0, 0), (0, 0), (0, 0), (0, 0), (0, 0), (0, 0), (0, 0), (0, 0), (0, 0), (0, 0)]
-- OperaHouse
def zx_oc0 : String := "OperaHouse"
def zx_Fc0 : List (Nat × (Nat × Nat × Nat × Bool)) := [(9, 10, 0, 3, true), (13, 10, 1, 3, true), (19, 10, 2, 3, true), (26, 10, 3, 3, true), (33, 10, 4, 3, true), (40, 10, 5, 3, true), (49, 10, 6, 3, true), (58, 10, 7, 3, true), (67, 10, 8, 3, true), (76, 10, 9, 3, true), (80, 2, 2, 0, false), (84, 2, 3, 0, false), (87, 10, 10, 0, false), (94, 4, 12, 1, false), (98, 10, 11, 0, false), (105, 2, 0, 0, false), (112, 2, 5, 3, true), (122, 6, 0, 0, false), (125, 6, 1, 0, false), (128, 6, 4, 1, false), (131, 6, 2, 0, false), (134, 2, 1, 0, false), (137, 2, 7, 3, true), (140, 2, 8, 3, true), (143, 2, 9, 3, true), (146, 2, 10, 3, true), (149, 2, 11, 3, true), (156, 2, 6, 3, true), (160, 2, 4, 3, false), (168, 7, 8, 0, false), (171, 10, 12, 0, false), (178, 5, 9, 0, false), (185, 0, 0, 0, false), (202, 0, 1, 3, true), (205, 5, 0, 0, false), (212, 5, 5, 0, false), (222, 5, 15, 3, true), (225, 5, 13, 3, true), (235, 10, 13, 0, false), (277, 4, 11, 0, false), (280, 4, 10, 3, true), (287, 0, 5, 3, true)]
def zx_pFc0 : List Nat := [593, 594, 595, 596, 597, 598, 599, 600, 601, 602, 251, 253, 603, 565, 604, 247, 261, 204, 206, 213, 207, 250, 266, 268, 270, 272, 274, 264, 256, 461, 605, 368, 310, 314, 357, 363, 381, 376, 606, 563, 561, 327]
def zx_Fic0 : List (Nat × (Nat × Nat × Nat × Bool)) := [(9, 10, 0, 3, true), (13, 10, 1, 3, true), (19, 10, 2, 3, true), (26, 10, 3, 3, true), (33, 10, 4, 3, true), (40, 10, 5, 3, true), (49, 10, 6, 3, true), (58, 10, 7, 3, true), (67, 10, 8, 3, true), (76, 10, 9, 3, true), (80, 2, 2, 0, false), (84, 2, 3, 0, false), (87, 10, 10, 0, false), (94, 4, 12, 1, false), (98, 10, 11, 0, false), (105, 2, 0, 0, false), (122, 6, 0, 0, false), (125, 6, 1, 0, false), (128, 6, 4, 1, false), (131, 6, 2, 0, false), (134, 2, 1, 0, false), (160, 2, 4, 3, false), (168, 7, 8, 0, false), (171, 10, 12, 0, false), (178, 5, 9, 0, false), (185, 0, 0, 0, false), (205, 5, 0, 0, false), (212, 5, 5, 0, false), (235, 10, 13, 0, false), (277, 4, 11, 0, false)]
def zx_pFic0 : List Nat := [593, 594, 595, 596, 597, 598, 599, 600, 601, 602, 251, 253, 603, 565, 604, 247, 204, 206, 213, 207, 250, 256, 461, 605, 368, 310, 357, 363, 606, 563]
def zx_Sc0 : List (Nat × Nat) := []
def zx_pSc0 : List Nat := []
def zx_Cc0 : List (Nat × Nat) := [(16, 2), (23, 0), (30, 5), (37, 8), (44, 7), (53, 9), (62, 3), (71, 4)]
def zx_pCc0 : List (List Nat) := [[143, 144, 111], [300, 301, 114], [350, 351, 115], [426, 427, 116], [442, 443, 117], [481, 482, 120], [517, 518, 121], [544, 545, 122]]
def zx_Ic0 : List (Nat × Int) := []
def zx_pIc0 : List Nat := []
def zx_Lc0 : List Nat := []
def zx_Lvc0 : List (Nat × Int64) := []
def zx_pLc0 : List Nat := []
def zx_Kc0 : List (Nat × (Nat × Nat × Nat × Nat)) := [(1, 5, 0, 1, 0), (18, 2, 1, 1, 0), (25, 4, 5, 1, 0), (32, 4, 6, 1, 0), (39, 4, 7, 1, 0), (46, 2, 8, 2, 0), (55, 2, 9, 4, 0), (64, 2, 10, 6, 0), (73, 2, 11, 5, 0), (90, 0, 13, 2, 10), (101, 0, 17, 1, 10), (108, 1, 18, 3, 0), (116, 0, 19, 3, 6), (152, 0, 24, 2, 2), (188, 0, 27, 2, 2), (199, 0, 30, 3, 10), (219, 0, 34, 2, 5), (228, 0, 37, 1, 3), (231, 0, 46, 2, 3), (249, 0, 31, 2, 0), (258, 0, 52, 3, 8), (267, 0, 57, 1, 4), (270, 0, 58, 4, 4)]
def zx_pKc0 : List (List Nat) := [[140, 141, 142], [147, 111, 145, 146], [304, 114, 303], [354, 115, 353], [430, 116, 429], [446, 117, 444, 445], [485, 120, 483, 484], [521, 121, 519, 520], [548, 122, 546, 547], [643, 110, 640, 642, 0], [659, 110, 656, 658, 1], [662, 110, 660, 661], [666, 113, 663, 664, 665], [691, 111, 688, 689, 690], [870, 111, 879, 868, 869], [895, 110, 892, 894, 15], [920, 115, 917, 918, 919], [935, 121, 932, 933, 934], [1081, 121, 1078, 1079, 1080], [899, 114, 896, 897, 898], [1146, 116, 1143, 1144, 1145], [1185, 122, 1182, 1183, 1184], [1189, 122, 1186, 1187, 1188]]
-- OperaHouse$House
def zx_oc1 : String := "OperaHouse$House"
def zx_Fc1 : List (Nat × (Nat × Nat × Nat × Bool)) := [(12, 2, 4, 3, false), (20, 2, 5, 3, true), (24, 2, 6, 3, true), (28, 2, 7, 3, true), (32, 2, 8, 3, true), (35, 2, 9, 3, true), (38, 2, 10, 3, true), (41, 2, 11, 3, true), (45, 2, 0, 0, false), (53, 6, 3, 0, false), (56, 2, 1, 0, false), (59, 6, 0, 0, false), (62, 6, 9, 3, true), (71, 6, 6, 3, true), (74, 6, 8, 3, true), (81, 6, 5, 3, true)]
def zx_pFc1 : List Nat := [255, 257, 262, 265, 267, 269, 271, 273, 246, 210, 249, 203, 224, 218, 222, 216]
def zx_Fic1 : List (Nat × (Nat × Nat × Nat × Bool)) := [(12, 2, 4, 3, false), (20, 2, 5, 3, true), (24, 2, 6, 3, true), (28, 2, 7, 3, true), (32, 2, 8, 3, true), (35, 2, 9, 3, true), (38, 2, 10, 3, true), (41, 2, 11, 3, true), (45, 2, 0, 0, false), (53, 6, 3, 0, false), (56, 2, 1, 0, false), (59, 6, 0, 0, false)]
def zx_pFic1 : List Nat := [255, 257, 262, 265, 267, 269, 271, 273, 246, 210, 249, 203]
def zx_Sc1 : List (Nat × Nat) := []
def zx_pSc1 : List Nat := []
def zx_Cc1 : List (Nat × Nat) := [(9, 1), (18, 6), (65545, 1), (65554, 6)]
def zx_pCc1 : List (List Nat) := [[149, 150, 112], [194, 197, 113], [149, 0, 0], [194, 0, 0]]
def zx_Ic1 : List (Nat × Int) := []
def zx_pIc1 : List Nat := []
def zx_Lc1 : List Nat := []
def zx_Lvc1 : List (Nat × Int64) := []
def zx_pLc1 : List Nat := []
def zx_Kc1 : List (Nat × (Nat × Nat × Nat × Nat)) := [(3, 5, 0, 1, 0), (11, 2, 2, 1, 0), (44, 4, 4, 1, 0), (49, 0, 27, 2, 2)]
def zx_pKc1 : List (List Nat) := [[148, 141, 142], [153, 112, 151, 152], [200, 113, 199], [870, 111, 867, 868, 869]]
-- OperaHouse$Contract
def zx_oc2 : String := "OperaHouse$Contract"
def zx_Fc2 : List (Nat × (Nat × Nat × Nat × Bool)) := [(9, 1, 0, 3, true), (15, 1, 1, 3, true), (18, 1, 2, 3, true), (21, 1, 3, 3, true), (27, 1, 4, 0, false), (31, 1, 5, 0, false), (34, 1, 6, 0, false), (37, 1, 7, 0, false), (40, 1, 8, 0, false)]
def zx_pFc2 : List Nat := [159, 162, 163, 164, 165, 167, 169, 171, 173]
def zx_Fic2 : List (Nat × (Nat × Nat × Nat × Bool)) := [(9, 1, 0, 3, true), (15, 1, 1, 3, true), (18, 1, 2, 3, true), (21, 1, 3, 3, true), (27, 1, 4, 0, false), (31, 1, 5, 0, false), (34, 1, 6, 0, false), (37, 1, 7, 0, false), (40, 1, 8, 0, false)]
def zx_pFic2 : List Nat := [159, 162, 163, 164, 165, 167, 169, 171, 173]
def zx_Sc2 : List (Nat × Nat) := []
def zx_pSc2 : List Nat := []
def zx_Cc2 : List (Nat × Nat) := []
def zx_pCc2 : List (List Nat) := []
def zx_Ic2 : List (Nat × Int) := []
def zx_pIc2 : List Nat := []
def zx_Lc2 : List Nat := [55]
def zx_Lvc2 : List (Nat × Int64) := [(55, -2)]
def zx_pLc2 : List Nat := [1127]
def zx_Kc2 : List (Nat × (Nat × Nat × Nat × Nat)) := [(3, 5, 0, 1, 0), (24, 0, 3, 1, 1)]
def zx_pKc2 : List (List Nat) := [[154, 141, 142], [158, 112, 155, 156, 157]]
-- OperaHouse$Opera
def zx_oc3 : String := "OperaHouse$Opera"
def zx_Fc3 : List (Nat × (Nat × Nat × Nat × Bool)) := [(9, 6, 5, 3, true), (15, 6, 6, 3, true), (18, 6, 7, 3, true), (21, 6, 8, 3, true), (24, 6, 9, 3, true), (27, 6, 3, 0, false)]
def zx_pFc3 : List Nat := [215, 217, 219, 221, 223, 209]
def zx_Fic3 : List (Nat × (Nat × Nat × Nat × Bool)) := [(9, 6, 5, 3, true), (15, 6, 6, 3, true), (18, 6, 7, 3, true), (21, 6, 8, 3, true), (24, 6, 9, 3, true), (27, 6, 3, 0, false)]
def zx_pFic3 : List Nat := [215, 217, 219, 221, 223, 209]
def zx_Sc3 : List (Nat × Nat) := []
def zx_pSc3 : List Nat := []
def zx_Cc3 : List (Nat × Nat) := []
def zx_pCc3 : List (List Nat) := []
def zx_Ic3 : List (Nat × Int) := []
def zx_pIc3 : List Nat := []
def zx_Lc3 : List Nat := []
def zx_Lvc3 : List (Nat × Int64) := []
def zx_pLc3 : List Nat := []
def zx_Kc3 : List (Nat × (Nat × Nat × Nat × Nat)) := [(3, 5, 0, 1, 0), (35, 3, 18, 3, 0)]
def zx_pKc3 : List (List Nat) := [[201, 141, 142], [662, 110, 661]]
-- OperaHouse$Calls
def zx_oc4 : String := "OperaHouse$Calls"
def zx_Fc4 : List (Nat × (Nat × Nat × Nat × Bool)) := [(9, 0, 1, 3, true), (15, 0, 2, 3, true), (18, 0, 3, 3, true), (21, 0, 4, 3, true), (24, 0, 5, 3, true), (27, 0, 6, 3, true), (30, 0, 7, 3, true), (33, 0, 0, 0, false)]
def zx_pFc4 : List Nat := [311, 315, 318, 321, 324, 328, 330, 306]
def zx_Fic4 : List (Nat × (Nat × Nat × Nat × Bool)) := [(9, 0, 1, 3, true), (15, 0, 2, 3, true), (18, 0, 3, 3, true), (21, 0, 4, 3, true), (24, 0, 5, 3, true), (27, 0, 6, 3, true), (30, 0, 7, 3, true), (33, 0, 0, 0, false)]
def zx_pFic4 : List Nat := [311, 315, 318, 321, 324, 328, 330, 306]
def zx_Sc4 : List (Nat × Nat) := []
def zx_pSc4 : List Nat := []
def zx_Cc4 : List (Nat × Nat) := []
def zx_pCc4 : List (List Nat) := []
def zx_Ic4 : List (Nat × Int) := []
def zx_pIc4 : List Nat := []
def zx_Lc4 : List Nat := []
def zx_Lvc4 : List (Nat × Int64) := []
def zx_pLc4 : List Nat := []
def zx_Kc4 : List (Nat × (Nat × Nat × Nat × Nat)) := [(3, 5, 0, 1, 0)]
def zx_pKc4 : List (List Nat) := [[305, 141, 142]]
-- OperaHouse$Ledger
def zx_oc5 : String := "OperaHouse$Ledger"
def zx_Fc5 : List (Nat × (Nat × Nat × Nat × Bool)) := [(9, 5, 1, 3, true), (15, 5, 2, 3, true), (18, 5, 3, 3, true), (21, 5, 4, 3, true), (25, 5, 6, 3, true), (28, 5, 7, 3, true), (31, 5, 8, 3, true), (34, 5, 10, 3, true), (37, 5, 11, 3, true), (40, 5, 12, 3, true), (43, 5, 13, 3, true), (46, 5, 14, 3, true), (49, 5, 15, 3, true), (52, 5, 16, 3, true), (55, 5, 17, 3, true), (58, 5, 18, 3, true), (61, 5, 0, 0, false), (65, 5, 5, 0, false), (72, 5, 9, 0, false)]
def zx_pFc5 : List Nat := [358, 359, 360, 361, 364, 365, 366, 369, 370, 371, 372, 377, 379, 382, 383, 384, 356, 362, 367]
def zx_Fic5 : List (Nat × (Nat × Nat × Nat × Bool)) := [(9, 5, 1, 3, true), (15, 5, 2, 3, true), (18, 5, 3, 3, true), (21, 5, 4, 3, true), (25, 5, 6, 3, true), (28, 5, 7, 3, true), (31, 5, 8, 3, true), (34, 5, 10, 3, true), (37, 5, 11, 3, true), (40, 5, 12, 3, true), (43, 5, 13, 3, true), (46, 5, 14, 3, true), (49, 5, 15, 3, true), (52, 5, 16, 3, true), (55, 5, 17, 3, true), (58, 5, 18, 3, true), (61, 5, 0, 0, false), (65, 5, 5, 0, false), (72, 5, 9, 0, false)]
def zx_pFic5 : List Nat := [358, 359, 360, 361, 364, 365, 366, 369, 370, 371, 372, 377, 379, 382, 383, 384, 356, 362, 367]
def zx_Sc5 : List (Nat × Nat) := []
def zx_pSc5 : List Nat := []
def zx_Cc5 : List (Nat × Nat) := []
def zx_pCc5 : List (List Nat) := []
def zx_Ic5 : List (Nat × Int) := []
def zx_pIc5 : List Nat := []
def zx_Lc5 : List Nat := []
def zx_Lvc5 : List (Nat × Int64) := []
def zx_pLc5 : List Nat := []
def zx_Kc5 : List (Nat × (Nat × Nat × Nat × Nat)) := [(3, 5, 0, 1, 0), (75, 1, 35, 2, 0)]
def zx_pKc5 : List (List Nat) := [[355, 141, 142], [923, 128, 921, 922]]
-- OperaHouse$Wagons
def zx_oc6 : String := "OperaHouse$Wagons"
def zx_Fc6 : List (Nat × (Nat × Nat × Nat × Bool)) := [(9, 8, 0, 3, true), (15, 8, 1, 3, true), (19, 8, 2, 0, false)]
def zx_pFc6 : List Nat := [432, 433, 434]
def zx_Fic6 : List (Nat × (Nat × Nat × Nat × Bool)) := [(9, 8, 0, 3, true), (15, 8, 1, 3, true), (19, 8, 2, 0, false)]
def zx_pFic6 : List Nat := [432, 433, 434]
def zx_Sc6 : List (Nat × Nat) := [(34, 1), (37, 2)]
def zx_pSc6 : List Nat := [0, 0]
def zx_Cc6 : List (Nat × Nat) := []
def zx_pCc6 : List (List Nat) := []
def zx_Ic6 : List (Nat × Int) := []
def zx_pIc6 : List Nat := []
def zx_Lc6 : List Nat := []
def zx_Lvc6 : List (Nat × Int64) := []
def zx_pLc6 : List Nat := []
def zx_Kc6 : List (Nat × (Nat × Nat × Nat × Nat)) := [(3, 5, 0, 1, 0), (23, 0, 40, 2, 8), (27, 0, 42, 2, 8), (30, 1, 43, 1, 0), (40, 1, 44, 2, 0), (44, 0, 39, 1, 8), (47, 0, 45, 2, 8), (51, 0, 41, 2, 8)]
def zx_pKc6 : List (List Nat) := [[431, 141, 142], [999, 116, 996, 998, 24], [1010, 116, 1007, 1009, 25], [1013, 116, 1011, 1012], [1018, 116, 1016, 1017], [995, 116, 1147, 993, 994], [1024, 116, 1148, 1022, 1023], [1006, 116, 1149, 1004, 1005]]
-- OperaHouse$Reader
def zx_oc7 : String := "OperaHouse$Reader"
def zx_Fc7 : List (Nat × (Nat × Nat × Nat × Bool)) := []
def zx_pFc7 : List Nat := []
def zx_Fic7 : List (Nat × (Nat × Nat × Nat × Bool)) := [(15, 7, 6, 3, false), (23, 7, 7, 3, false), (27, 7, 0, 3, true), (31, 7, 1, 0, false), (35, 7, 2, 0, false), (38, 7, 5, 0, false), (41, 7, 8, 0, false), (76, 7, 3, 0, false), (79, 1, 4, 0, false), (95, 7, 4, 0, false), (105, 1, 5, 0, false), (115, 1, 7, 0, false)]
def zx_pFic7 : List Nat := [458, 459, 452, 453, 454, 457, 460, 455, 166, 456, 168, 172]
def zx_Sc7 : List (Nat × Nat) := [(9, 0)]
def zx_pSc7 : List Nat := [448]
def zx_Cc7 : List (Nat × Nat) := [(20, 1)]
def zx_pCc7 : List (List Nat) := [[450, 150, 112]]
def zx_Ic7 : List (Nat × Int) := []
def zx_pIc7 : List Nat := []
def zx_Lc7 : List Nat := []
def zx_Lvc7 : List (Nat × Int64) := []
def zx_pLc7 : List Nat := []
def zx_Kc7 : List (Nat × (Nat × Nat × Nat × Nat)) := [(3, 5, 0, 1, 0), (22, 2, 2, 1, 0), (44, 0, 3, 1, 1), (162, 3, 18, 3, 0)]
def zx_pKc7 : List (List Nat) := [[447, 141, 142], [153, 112, 451, 152], [158, 112, 696, 156, 157], [662, 110, 661]]
-- OperaHouse$Walk
def zx_oc8 : String := "OperaHouse$Walk"
def zx_Fc8 : List (Nat × (Nat × Nat × Nat × Bool)) := []
def zx_pFc8 : List Nat := []
def zx_Fic8 : List (Nat × (Nat × Nat × Nat × Bool)) := [(9, 9, 3, 3, true), (15, 9, 4, 3, true), (18, 9, 5, 3, true), (21, 9, 6, 3, true), (24, 9, 8, 3, true), (27, 9, 0, 3, true), (31, 9, 1, 3, true), (35, 9, 2, 3, true), (49, 0, 0, 0, false), (89, 6, 3, 0, false), (137, 9, 7, 0, false), (144, 1, 6, 0, false), (166, 6, 2, 0, false)]
def zx_pFic8 : List Nat := [490, 493, 494, 495, 497, 487, 488, 489, 308, 211, 496, 170, 208]
def zx_Sc8 : List (Nat × Nat) := []
def zx_pSc8 : List Nat := []
def zx_Cc8 : List (Nat × Nat) := []
def zx_pCc8 : List (List Nat) := []
def zx_Ic8 : List (Nat × Int) := [(157, 32768), (187, 64768)]
def zx_pIc8 : List Nat := [1054, 1163]
def zx_Lc8 : List Nat := []
def zx_Lvc8 : List (Nat × Int64) := []
def zx_pLc8 : List Nat := []
def zx_Kc8 : List (Nat × (Nat × Nat × Nat × Nat)) := [(3, 5, 0, 1, 0), (107, 1, 35, 2, 0)]
def zx_pKc8 : List (List Nat) := [[486, 141, 142], [923, 128, 1107, 922]]
-- OperaHouse$Judge
def zx_oc9 : String := "OperaHouse$Judge"
def zx_Fc9 : List (Nat × (Nat × Nat × Nat × Bool)) := [(9, 3, 5, 3, true), (15, 3, 0, 3, true), (19, 3, 1, 3, true), (23, 3, 2, 3, true), (27, 3, 3, 3, true), (31, 3, 4, 3, true), (41, 9, 3, 3, true), (44, 0, 0, 0, false), (50, 0, 7, 3, true), (72, 2, 1, 0, false), (80, 0, 4, 3, true), (96, 0, 2, 3, true), (105, 0, 3, 3, true), (111, 2, 5, 3, true), (115, 0, 5, 3, true), (117, 6, 1, 0, false), (135, 0, 6, 3, true), (144, 0, 1, 3, true), (154, 2, 2, 0, false), (157, 2, 3, 0, false), (160, 6, 4, 1, false), (164, 6, 3, 0, false), (167, 5, 13, 3, true)]
def zx_pFc9 : List Nat := [529, 523, 524, 525, 526, 527, 491, 307, 331, 248, 323, 317, 320, 260, 326, 205, 329, 313, 252, 254, 214, 212, 375]
def zx_Fic9 : List (Nat × (Nat × Nat × Nat × Bool)) := [(9, 3, 5, 3, true), (15, 3, 0, 3, true), (19, 3, 1, 3, true), (23, 3, 2, 3, true), (27, 3, 3, 3, true), (31, 3, 4, 3, true), (44, 0, 0, 0, false), (72, 2, 1, 0, false), (117, 6, 1, 0, false), (154, 2, 2, 0, false), (157, 2, 3, 0, false), (160, 6, 4, 1, false), (164, 6, 3, 0, false)]
def zx_pFic9 : List Nat := [529, 523, 524, 525, 526, 527, 307, 248, 205, 252, 254, 214, 212]
def zx_Sc9 : List (Nat × Nat) := []
def zx_pSc9 : List Nat := []
def zx_Cc9 : List (Nat × Nat) := []
def zx_pCc9 : List (List Nat) := []
def zx_Ic9 : List (Nat × Int) := []
def zx_pIc9 : List Nat := []
def zx_Lc9 : List Nat := []
def zx_Lvc9 : List (Nat × Int64) := []
def zx_pLc9 : List Nat := []
def zx_Kc9 : List (Nat × (Nat × Nat × Nat × Nat)) := [(3, 5, 0, 1, 0), (35, 1, 35, 2, 0), (69, 0, 38, 1, 3), (91, 0, 39, 1, 8), (108, 0, 41, 2, 8), (122, 0, 45, 2, 8)]
def zx_pKc9 : List (List Nat) := [[522, 141, 142], [923, 128, 936, 922], [991, 121, 988, 990, 23], [995, 116, 992, 993, 994], [1006, 116, 1003, 1004, 1005], [1024, 116, 1021, 1022, 1023]]
-- OperaHouse$Layer
def zx_oc10 : String := "OperaHouse$Layer"
def zx_Fc10 : List (Nat × (Nat × Nat × Nat × Bool)) := [(9, 4, 4, 3, true), (15, 4, 5, 3, true), (18, 4, 6, 3, true), (21, 4, 7, 3, true), (24, 4, 10, 3, true), (27, 4, 0, 3, true), (31, 4, 1, 3, true), (35, 4, 2, 3, true), (39, 4, 3, 3, true), (43, 4, 11, 0, false), (47, 4, 12, 1, false), (55, 0, 0, 0, false), (66, 2, 5, 3, true), (70, 6, 0, 0, false), (79, 4, 8, 0, false), (82, 4, 9, 0, false), (90, 3, 5, 3, true), (99, 3, 4, 3, true), (103, 9, 3, 3, true), (139, 5, 13, 3, true)]
def zx_pFc10 : List Nat := [554, 555, 556, 557, 560, 550, 551, 552, 553, 562, 564, 309, 258, 202, 558, 559, 530, 528, 492, 373]
def zx_Fic10 : List (Nat × (Nat × Nat × Nat × Bool)) := [(9, 4, 4, 3, true), (15, 4, 5, 3, true), (18, 4, 6, 3, true), (21, 4, 7, 3, true), (24, 4, 10, 3, true), (27, 4, 0, 3, true), (31, 4, 1, 3, true), (35, 4, 2, 3, true), (39, 4, 3, 3, true), (43, 4, 11, 0, false), (47, 4, 12, 1, false), (55, 0, 0, 0, false), (70, 6, 0, 0, false), (79, 4, 8, 0, false), (82, 4, 9, 0, false)]
def zx_pFic10 : List Nat := [554, 555, 556, 557, 560, 550, 551, 552, 553, 562, 564, 309, 202, 558, 559]
def zx_Sc10 : List (Nat × Nat) := []
def zx_pSc10 : List Nat := []
def zx_Cc10 : List (Nat × Nat) := []
def zx_pCc10 : List (List Nat) := []
def zx_Ic10 : List (Nat × Int) := []
def zx_pIc10 : List Nat := []
def zx_Lc10 : List Nat := []
def zx_Lvc10 : List (Nat × Int64) := []
def zx_pLc10 : List Nat := []
def zx_Kc10 : List (Nat × (Nat × Nat × Nat × Nat)) := [(3, 5, 0, 1, 0), (51, 3, 18, 3, 0), (60, 0, 27, 2, 2), (85, 0, 37, 1, 3)]
def zx_pKc10 : List (List Nat) := [[549, 141, 142], [662, 110, 661], [870, 111, 1191, 868, 869], [935, 121, 1200, 933, 934]]
-- java/util/Arrays
def zx_oc11 : String := "java/util/Arrays"
def zx_Fc11 : List (Nat × (Nat × Nat × Nat × Bool)) := []
def zx_pFc11 : List Nat := []
def zx_Fic11 : List (Nat × (Nat × Nat × Nat × Bool)) := []
def zx_pFic11 : List Nat := []
def zx_Sc11 : List (Nat × Nat) := []
def zx_pSc11 : List Nat := []
def zx_Cc11 : List (Nat × Nat) := []
def zx_pCc11 : List (List Nat) := []
def zx_Ic11 : List (Nat × Int) := []
def zx_pIc11 : List Nat := []
def zx_Lc11 : List Nat := []
def zx_Lvc11 : List (Nat × Int64) := []
def zx_pLc11 : List Nat := []
def zx_Kc11 : List (Nat × (Nat × Nat × Nat × Nat)) := []
def zx_pKc11 : List (List Nat) := []
-- OperaHouseModel
def zx_oc12 : String := "OperaHouseModel"
def zx_Fc12 : List (Nat × (Nat × Nat × Nat × Bool)) := [(7, 11, 1, 3, true), (13, 11, 7, 3, true), (17, 11, 8, 3, true), (20, 11, 9, 3, true), (23, 11, 10, 3, true), (26, 11, 11, 3, true), (29, 11, 12, 3, true), (32, 11, 13, 3, true), (35, 11, 14, 3, true), (38, 11, 15, 3, true), (41, 11, 16, 3, true), (45, 11, 17, 3, true), (48, 11, 18, 3, true), (51, 11, 19, 3, true), (54, 11, 20, 3, true), (57, 11, 23, 0, false), (61, 11, 24, 0, false), (64, 11, 25, 3, true), (67, 11, 26, 3, true), (70, 11, 27, 3, true), (73, 11, 28, 3, true), (76, 11, 29, 3, true), (79, 11, 30, 3, true), (82, 11, 31, 3, true), (85, 11, 32, 3, true), (88, 11, 33, 3, true), (91, 11, 34, 3, true), (94, 11, 35, 3, true), (97, 11, 36, 3, true), (100, 11, 48, 3, true), (103, 11, 49, 3, true), (106, 11, 50, 3, true), (109, 11, 51, 3, true), (112, 11, 52, 3, true), (115, 11, 53, 3, true), (118, 11, 54, 3, true), (121, 11, 55, 3, true), (124, 11, 56, 3, true), (127, 11, 57, 3, true), (130, 11, 58, 3, true), (133, 11, 59, 3, true), (136, 11, 60, 3, true), (139, 11, 61, 3, true), (142, 11, 62, 3, true), (145, 11, 63, 3, true), (148, 11, 64, 3, true), (151, 11, 65, 3, true), (154, 11, 66, 3, true), (157, 11, 72, 3, true), (160, 11, 73, 3, true), (163, 11, 74, 3, true), (166, 11, 75, 3, true), (169, 11, 76, 3, true), (172, 11, 77, 3, true), (175, 11, 79, 3, true), (178, 11, 80, 3, true), (181, 11, 81, 3, true), (184, 11, 82, 3, true), (187, 11, 83, 3, true), (190, 11, 84, 3, true), (193, 11, 85, 3, true), (196, 11, 86, 3, true), (199, 11, 87, 3, true), (202, 11, 90, 3, true), (205, 11, 91, 3, true), (208, 11, 92, 3, true), (211, 11, 93, 3, true), (214, 11, 94, 3, true), (217, 11, 95, 3, true), (220, 11, 96, 3, true), (223, 11, 100, 0, false), (226, 11, 0, 0, false), (229, 11, 2, 0, false), (236, 11, 3, 0, false), (239, 11, 4, 0, false), (246, 11, 5, 0, false), (249, 11, 6, 0, false), (255, 11, 21, 0, false), (258, 11, 22, 0, false), (272, 11, 41, 0, false), (275, 11, 42, 0, false), (278, 11, 40, 0, false), (288, 11, 43, 0, false), (291, 11, 47, 2, false), (295, 11, 44, 0, false), (298, 11, 45, 0, false), (313, 11, 46, 0, false), (316, 11, 37, 0, false), (319, 11, 39, 0, false), (381, 11, 38, 0, false), (417, 11, 67, 0, false), (423, 11, 70, 0, false), (430, 11, 69, 0, false), (440, 11, 68, 0, false), (443, 11, 78, 0, false), (446, 11, 71, 0, false), (551, 11, 88, 0, false), (570, 11, 89, 0, false), (596, 11, 98, 0, false), (599, 11, 97, 0, false), (608, 11, 99, 0, false)]
def zx_pFc12 : List Nat := [1338, 1344, 1345, 1346, 1347, 1348, 1349, 1350, 1351, 1352, 1353, 1354, 1355, 1356, 1357, 1360, 1361, 1362, 1363, 1364, 1365, 1366, 1367, 1368, 1369, 1370, 1371, 1372, 1373, 1385, 1386, 1387, 1388, 1389, 1390, 1391, 1392, 1393, 1394, 1395, 1396, 1397, 1398, 1399, 1400, 1401, 1402, 1403, 1409, 1410, 1411, 1412, 1413, 1414, 1416, 1417, 1418, 1419, 1420, 1421, 1422, 1423, 1424, 1427, 1428, 1429, 1430, 1431, 1432, 1433, 1437, 1337, 1339, 1340, 1341, 1342, 1343, 1358, 1359, 1378, 1379, 1377, 1380, 1384, 1381, 1382, 1383, 1374, 1376, 1375, 1404, 1407, 1406, 1405, 1415, 1408, 1425, 1426, 1435, 1434, 1436]
def zx_Fic12 : List (Nat × (Nat × Nat × Nat × Bool)) := [(7, 11, 1, 3, true), (13, 11, 7, 3, true), (17, 11, 8, 3, true), (20, 11, 9, 3, true), (23, 11, 10, 3, true), (26, 11, 11, 3, true), (29, 11, 12, 3, true), (32, 11, 13, 3, true), (35, 11, 14, 3, true), (38, 11, 15, 3, true), (41, 11, 16, 3, true), (45, 11, 17, 3, true), (48, 11, 18, 3, true), (51, 11, 19, 3, true), (54, 11, 20, 3, true), (57, 11, 23, 0, false), (61, 11, 24, 0, false), (64, 11, 25, 3, true), (67, 11, 26, 3, true), (70, 11, 27, 3, true), (73, 11, 28, 3, true), (76, 11, 29, 3, true), (79, 11, 30, 3, true), (82, 11, 31, 3, true), (85, 11, 32, 3, true), (88, 11, 33, 3, true), (91, 11, 34, 3, true), (94, 11, 35, 3, true), (97, 11, 36, 3, true), (100, 11, 48, 3, true), (103, 11, 49, 3, true), (106, 11, 50, 3, true), (109, 11, 51, 3, true), (112, 11, 52, 3, true), (115, 11, 53, 3, true), (118, 11, 54, 3, true), (121, 11, 55, 3, true), (124, 11, 56, 3, true), (127, 11, 57, 3, true), (130, 11, 58, 3, true), (133, 11, 59, 3, true), (136, 11, 60, 3, true), (139, 11, 61, 3, true), (142, 11, 62, 3, true), (145, 11, 63, 3, true), (148, 11, 64, 3, true), (151, 11, 65, 3, true), (154, 11, 66, 3, true), (157, 11, 72, 3, true), (160, 11, 73, 3, true), (163, 11, 74, 3, true), (166, 11, 75, 3, true), (169, 11, 76, 3, true), (172, 11, 77, 3, true), (175, 11, 79, 3, true), (178, 11, 80, 3, true), (181, 11, 81, 3, true), (184, 11, 82, 3, true), (187, 11, 83, 3, true), (190, 11, 84, 3, true), (193, 11, 85, 3, true), (196, 11, 86, 3, true), (199, 11, 87, 3, true), (202, 11, 90, 3, true), (205, 11, 91, 3, true), (208, 11, 92, 3, true), (211, 11, 93, 3, true), (214, 11, 94, 3, true), (217, 11, 95, 3, true), (220, 11, 96, 3, true), (223, 11, 100, 0, false), (226, 11, 0, 0, false), (229, 11, 2, 0, false), (236, 11, 3, 0, false), (239, 11, 4, 0, false), (246, 11, 5, 0, false), (249, 11, 6, 0, false), (255, 11, 21, 0, false), (258, 11, 22, 0, false), (272, 11, 41, 0, false), (275, 11, 42, 0, false), (278, 11, 40, 0, false), (288, 11, 43, 0, false), (291, 11, 47, 2, false), (295, 11, 44, 0, false), (298, 11, 45, 0, false), (313, 11, 46, 0, false), (316, 11, 37, 0, false), (319, 11, 39, 0, false), (381, 11, 38, 0, false), (417, 11, 67, 0, false), (423, 11, 70, 0, false), (430, 11, 69, 0, false), (440, 11, 68, 0, false), (443, 11, 78, 0, false), (446, 11, 71, 0, false), (551, 11, 88, 0, false), (570, 11, 89, 0, false), (596, 11, 98, 0, false), (599, 11, 97, 0, false), (608, 11, 99, 0, false)]
def zx_pFic12 : List Nat := [1338, 1344, 1345, 1346, 1347, 1348, 1349, 1350, 1351, 1352, 1353, 1354, 1355, 1356, 1357, 1360, 1361, 1362, 1363, 1364, 1365, 1366, 1367, 1368, 1369, 1370, 1371, 1372, 1373, 1385, 1386, 1387, 1388, 1389, 1390, 1391, 1392, 1393, 1394, 1395, 1396, 1397, 1398, 1399, 1400, 1401, 1402, 1403, 1409, 1410, 1411, 1412, 1413, 1414, 1416, 1417, 1418, 1419, 1420, 1421, 1422, 1423, 1424, 1427, 1428, 1429, 1430, 1431, 1432, 1433, 1437, 1337, 1339, 1340, 1341, 1342, 1343, 1358, 1359, 1378, 1379, 1377, 1380, 1384, 1381, 1382, 1383, 1374, 1376, 1375, 1404, 1407, 1406, 1405, 1415, 1408, 1425, 1426, 1435, 1434, 1436]
def zx_Sc12 : List (Nat × Nat) := []
def zx_pSc12 : List Nat := []
def zx_Cc12 : List (Nat × Nat) := []
def zx_pCc12 : List (List Nat) := []
def zx_Ic12 : List (Nat × Int) := [(520, 100000)]
def zx_pIc12 : List Nat := [1975]
def zx_Lc12 : List Nat := [329, 338, 340, 342, 344, 349, 354, 356, 361, 363, 365, 367, 369, 371, 373, 375, 377, 379, 401, 403, 405]
def zx_Lvc12 : List (Nat × Int64) := [(329, 1919251316), (338, 6578553), (340, 2003133803), (342, 508675318629), (344, 465557354085), (349, 6710629), (354, 29807), (356, 26982), (361, 1919905645), (363, 469786323827), (365, 1718971500), (367, 474214787188), (369, 1818326117), (371, 427071792498), (373, 29676314707714404), (375, 448546566771), (377, 7238760), (379, 1870030194), (401, 6385252), (403, 28530), (405, 7237492)]
def zx_pLc12 : List Nat := [1714, 1727, 1728, 1729, 1730, 1736, 1735, 1741, 1755, 1756, 1757, 1758, 1759, 1760, 1761, 1762, 1763, 1764, 1788, 1789, 1750]
def zx_Kc12 : List (Nat × (Nat × Nat × Nat × Nat)) := [(1, 5, 0, 1, 0), (232, 0, 65, 2, 11), (242, 1, 68, 3, 0), (252, 0, 70, 1, 11), (261, 0, 72, 2, 11), (310, 0, 76, 2, 11), (433, 0, 81, 3, 11), (449, 0, 85, 1, 11), (460, 0, 84, 2, 11), (499, 1, 93, 2, 0), (502, 1, 95, 2, 0), (505, 1, 96, 3, 0), (508, 0, 91, 1, 11), (511, 0, 92, 2, 11), (514, 0, 94, 1, 11), (554, 0, 99, 1, 11), (567, 0, 98, 1, 11), (573, 0, 101, 2, 11)]
def zx_pKc12 : List (List Nat) := [[1336, 141, 142], [1652, 123, 1649, 1651, 40], [1663, 123, 1661, 1662], [1671, 123, 1668, 1670, 41], [1679, 123, 1676, 1678, 42], [1695, 123, 1692, 1694, 43], [1825, 123, 1822, 1824, 64], [1845, 123, 1842, 1844, 67], [1841, 123, 1838, 1840, 66], [1932, 123, 1930, 1931], [1939, 123, 1937, 1938], [1942, 123, 1940, 1941], [1925, 123, 1922, 1924, 82], [1929, 123, 1926, 1928, 83], [1936, 123, 1933, 1935, 84], [1954, 123, 1951, 1953, 86], [1950, 123, 1947, 1949, 85], [2022, 123, 2019, 2021, 101]]
-- OperaHouseLaw
def zx_oc13 : String := "OperaHouseLaw"
def zx_Fc13 : List (Nat × (Nat × Nat × Nat × Bool)) := []
def zx_pFc13 : List Nat := []
def zx_Fic13 : List (Nat × (Nat × Nat × Nat × Bool)) := []
def zx_pFic13 : List Nat := []
def zx_Sc13 : List (Nat × Nat) := []
def zx_pSc13 : List Nat := []
def zx_Cc13 : List (Nat × Nat) := [(8, 10), (16, 11)]
def zx_pCc13 : List (List Nat) := [[135, 136, 110], [1331, 1332, 123]]
def zx_Ic13 : List (Nat × Int) := []
def zx_pIc13 : List Nat := []
def zx_Lc13 : List Nat := []
def zx_Lvc13 : List (Nat × Int64) := []
def zx_pLc13 : List Nat := []
def zx_Kc13 : List (Nat × (Nat × Nat × Nat × Nat)) := [(15, 2, 0, 1, 0), (18, 2, 62, 1, 0), (19, 0, 12, 6, 10), (23, 0, 64, 6, 11), (24, 0, 14, 2, 10), (28, 0, 66, 2, 11), (29, 0, 15, 2, 10), (33, 0, 67, 2, 11), (34, 0, 16, 5, 10), (38, 0, 69, 5, 11), (39, 0, 20, 4, 10), (43, 0, 71, 4, 11), (44, 0, 21, 4, 10), (48, 0, 73, 4, 11), (49, 0, 22, 3, 10), (53, 0, 74, 3, 11), (54, 0, 23, 2, 10), (57, 0, 75, 2, 11), (58, 0, 25, 1, 10), (62, 0, 77, 1, 11), (63, 0, 26, 5, 10), (67, 0, 78, 5, 11), (68, 0, 28, 6, 10), (71, 0, 79, 6, 11), (72, 0, 29, 5, 10), (76, 0, 80, 5, 11), (77, 0, 32, 4, 10), (80, 0, 82, 4, 11), (81, 0, 33, 5, 10), (84, 0, 83, 5, 11), (85, 0, 36, 2, 10), (88, 0, 97, 2, 11), (94, 0, 100, 3, 11), (95, 0, 63, 1, 11), (98, 0, 47, 5, 10), (102, 0, 86, 5, 11), (103, 0, 48, 4, 10), (106, 0, 87, 4, 11), (107, 0, 49, 4, 10), (110, 0, 88, 4, 11), (111, 0, 50, 4, 10), (114, 0, 89, 4, 11), (115, 0, 51, 3, 10), (118, 0, 90, 3, 11), (119, 0, 53, 4, 10), (122, 0, 102, 4, 11), (123, 0, 54, 4, 10), (126, 0, 103, 4, 11), (127, 0, 55, 3, 10), (130, 0, 104, 3, 11), (131, 0, 56, 4, 10), (134, 0, 105, 4, 11), (135, 0, 59, 2, 10), (138, 0, 106, 2, 11), (139, 0, 60, 1, 10), (142, 0, 107, 1, 11), (143, 0, 61, 2, 10), (146, 0, 108, 2, 11)]
def zx_pKc13 : List (List Nat) := [[139, 110, 137, 138], [1335, 123, 1333, 1334], [639, 110, 636, 637, 638], [1648, 123, 1645, 1646, 1647], [647, 110, 644, 645, 646], [1656, 123, 1653, 1654, 1655], [651, 110, 648, 649, 650], [1660, 123, 1657, 1658, 1659], [655, 110, 652, 653, 654], [1667, 123, 1664, 1665, 1666], [675, 110, 672, 673, 674], [1675, 123, 1672, 1673, 1674], [679, 110, 676, 677, 678], [1683, 123, 1680, 1681, 1682], [683, 110, 680, 681, 682], [1687, 123, 1684, 1685, 1686], [687, 110, 684, 685, 686], [1691, 123, 1688, 1689, 1690], [858, 110, 855, 856, 857], [1797, 123, 1794, 1795, 1796], [862, 110, 859, 860, 861], [1801, 123, 1798, 1799, 1800], [878, 110, 875, 876, 877], [1809, 123, 1806, 1807, 1808], [891, 110, 888, 889, 890], [1821, 123, 1818, 1819, 1820], [907, 110, 904, 905, 906], [1833, 123, 1830, 1831, 1832], [916, 110, 913, 914, 915], [1837, 123, 1834, 1835, 1836], [931, 110, 928, 929, 930], [1946, 123, 1943, 1944, 1945], [2018, 123, 2015, 2016, 2017], [1644, 123, 1641, 1642, 1643], [1085, 110, 1082, 1083, 1084], [1853, 123, 1850, 1851, 1852], [1090, 110, 1087, 1088, 1089], [1865, 123, 1862, 1863, 1864], [1098, 110, 1095, 1096, 1097], [1877, 123, 1874, 1875, 1876], [1138, 110, 1135, 1136, 1137], [1917, 123, 1914, 1915, 1916], [1142, 110, 1139, 1140, 1141], [1921, 123, 1918, 1919, 1920], [1153, 110, 1150, 1151, 1152], [2026, 123, 2023, 2024, 2025], [1167, 110, 1164, 1165, 1166], [2049, 123, 2046, 2047, 2048], [1177, 110, 1174, 1175, 1176], [2057, 123, 2054, 2055, 2056], [1181, 110, 1178, 1179, 1180], [2061, 123, 2058, 2059, 2060], [1239, 110, 1236, 1237, 1238], [2073, 123, 2070, 2071, 2072], [1243, 110, 1240, 1241, 1242], [2077, 123, 2074, 2075, 2076], [1256, 110, 1253, 1254, 1255], [2081, 123, 2078, 2079, 2080]]
def zx_pW0 : List Nat := [333, 335, 337, 339, 341, 343, 345, 347]
def zx_pW1 : List Nat := [174, 176, 178, 180, 182, 184, 186, 188, 190]
def zx_pW2 : List Nat := [275, 277, 279, 281, 283, 285, 287, 289, 291, 293, 295, 297]
def zx_pW3 : List Nat := [531, 533, 535, 537, 539, 541]
def zx_pW4 : List Nat := [566, 568, 570, 572, 574, 576, 578, 580, 582, 584, 586, 588, 590]
def zx_pW5 : List Nat := [386, 388, 390, 392, 394, 396, 398, 400, 402, 404, 406, 408, 410, 412, 414, 416, 418, 420, 422]
def zx_pW6 : List Nat := [225, 227, 229, 231, 233, 235, 237, 239, 241, 243]
def zx_pW7 : List Nat := [462, 464, 466, 468, 470, 472, 474, 476, 478]
def zx_pW8 : List Nat := [435, 437, 439]
def zx_pW9 : List Nat := [498, 500, 502, 504, 506, 508, 510, 512, 514]
def zx_pW10 : List Nat := [607, 609, 611, 613, 615, 617, 619, 621, 623, 625, 627, 629, 631, 633]
def zx_pW11 : List Nat := [1438, 1440, 1442, 1444, 1446, 1448, 1450, 1452, 1454, 1456, 1458, 1460, 1462, 1464, 1466, 1468, 1470, 1472, 1474, 1476, 1478, 1480, 1482, 1484, 1486, 1488, 1490, 1492, 1494, 1496, 1498, 1500, 1502, 1504, 1506, 1508, 1510, 1512, 1514, 1516, 1518, 1520, 1522, 1524, 1526, 1528, 1530, 1532, 1534, 1536, 1538, 1540, 1542, 1544, 1546, 1548, 1550, 1552, 1554, 1556, 1558, 1560, 1562, 1564, 1566, 1568, 1570, 1572, 1574, 1576, 1578, 1580, 1582, 1584, 1586, 1588, 1590, 1592, 1594, 1596, 1598, 1600, 1602, 1604, 1606, 1608, 1610, 1612, 1614, 1616, 1618, 1620, 1622, 1624, 1626, 1628, 1630, 1632, 1634, 1636, 1638]
