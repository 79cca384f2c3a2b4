noncomputable section
/-! zx: all instructions but calls and returns -/
section ZXD
variable (M : zx_M) (Y : zx_Y) (dt : List (List Nat)) (pc : Nat) (i : Instr) (G : zx_G) (h : List zx_C) (lv : List (Nat × zx_V)) (k : Nat × Nat) (sk : List zx_V)
def zx_xiald : zx_O := match sk with
  | _ :: .inr (.inr false) :: _ => zx_xsl M pc G h lv k sk
  | _ :: .inr (.inl (id :: _, _)) :: _ => if id < 64 then zx_xyl Y pc G h lv k sk else zx_xal pc G h lv k sk (fun t => t == 0)
  | _ => none
def zx_xalen : zx_O := match sk with
  | .inr (.inr false) :: _ => zx_xsn M pc G h lv k sk
  | .inr (.inl (id :: _, _)) :: _ => if id < 64 then zx_xyn Y pc G h lv k sk else zx_xlen pc G h lv k sk
  | _ => none
def zx_xldc2 (ix : Nat) : zx_O := if zx_mL M ix = true then some [(pc + 3, G, h, lv, zx_lg :: sk, k)] else none
def zx_xlc : zx_O := some [(pc + 1, G, h, lv, zx_lg :: sk, k)]
def zx_step0 : zx_O := match i with
  | .iconst n => zx_xk pc G h lv k sk n (-128) 127 1
  | .bipush n => zx_xk pc G h lv k sk n (-128) 127 2
  | .sipush n => zx_xk pc G h lv k sk n (-32768) 32767 3
  | .ldc ix => zx_xint pc G h lv k sk (zx_mI M ix) 2
  | .ldc_w ix => zx_xint pc G h lv k sk (zx_mI M ix) 3
  | .ldc2_w ix => zx_xldc2 M pc G h lv k sk ix
  | .lconst _ => zx_xlc pc G h lv k sk
  | .iload n => zx_xld pc G h lv k sk n 2
  | .iload_n n => zx_xld pc G h lv k sk n 1
  | .lload n => zx_xlld pc G h lv k sk n 2
  | .lload_n n => zx_xlld pc G h lv k sk n 1
  | .aload n => zx_xald pc G h lv k sk n 2
  | .aload_n n => zx_xald pc G h lv k sk n 1
  | .istore n => zx_xst M pc G h lv k sk n 2
  | .istore_n n => zx_xst M pc G h lv k sk n 1
  | .lstore n => zx_xlst M pc G h lv k sk n 2
  | .lstore_n n => zx_xlst M pc G h lv k sk n 1
  | .astore n => zx_xast M pc G h lv k sk n 2
  | .astore_n n => zx_xast M pc G h lv k sk n 1
  | .iinc n c => zx_xinc M pc G h lv k sk n c
  | .iadd => zx_xbin pc h lv k sk (fun x y => zx_val G (zx_add x y))
  | .isub => zx_xbin pc h lv k sk (fun x y => zx_val G (zx_sub x y))
  | .imul => zx_xbin pc h lv k sk (fun x y => zx_mul G x y)
  | .idiv => zx_xbin pc h lv k sk (fun x y => zx_div G x y)
  | .irem => zx_xbin pc h lv k sk (fun x y => zx_rem G x y)
  | .iand => zx_xbin pc h lv k sk (fun x y => zx_and G x y)
  | .ior => zx_xbin pc h lv k sk (fun _ _ => some (zx_full G))
  | .ixor => zx_xbin pc h lv k sk (fun _ _ => some (zx_full G))
  | .ishl => zx_xbin pc h lv k sk (fun _ _ => some (zx_full G))
  | .ishr => zx_xbin pc h lv k sk (fun _ _ => some (zx_full G))
  | .i2b => zx_xi2b pc G h lv k sk
  | .i2l => zx_xi2l pc G h lv k sk
  | .l2i => zx_xl2i pc G h lv k sk
  | .land => zx_xlbin pc G h lv k sk
  | .lor => zx_xlbin pc G h lv k sk
  | .lxor => zx_xlbin pc G h lv k sk
  | .lshl => zx_xlsh pc G h lv k sk
  | .lshr => zx_xlsh pc G h lv k sk
  | .lcmp => zx_xlcmp pc G h lv k sk
  | .dup => zx_xdup pc G h lv k sk
  | .pop => zx_xpop pc G h lv k sk
  | .dup2 => zx_xdup2 pc G h lv k sk
  | .goto off => zx_xgoto pc G h lv k sk off
  | .ifCond c off => zx_xif pc G h lv k sk c off
  | .if_icmp c off => zx_xicmp pc G h lv k sk c off
  | .tableswitch d lo hi offs => zx_xtab pc G h lv k sk d lo hi offs
  | .getfield ix => zx_xget M pc G h lv k sk ix
  | .putfield ix => zx_xput M pc G h lv k sk ix
  | .getstatic ix => zx_xgs M pc G h lv k sk ix
  | .iaload => zx_xiald M Y pc G h lv k sk
  | .baload => zx_xal pc G h lv k sk (fun t => t == 1 || t == 2)
  | .aaload => zx_xal pc G h lv k sk (fun t => Nat.ble 3 t)
  | .iastore => zx_xas pc G h lv k sk false
  | .bastore => zx_xas pc G h lv k sk true
  | .aastore => zx_xqs pc G h lv k sk
  | .arraylength => zx_xalen M Y pc G h lv k sk
  | .new ix => zx_xnew M pc G h lv k sk ix dt
  | .newarray a => zx_xna M pc G h lv k sk a
  | .anewarray ix => zx_xnq M pc G h lv k sk ix
  | _ => none
end ZXD
theorem zx_b8 {n : Int} (h1 : -128 ≤ n) (h2 : n ≤ 127) : (Int8.ofInt n).toInt32.toInt = n := by
  rw [Int8.toInt_toInt32]
  exact Int8.toInt_ofInt_of_le (by omega) (by omega)
theorem zx_b16 {n : Int} (h1 : -32768 ≤ n) (h2 : n ≤ 32767) : (Int16.ofInt n).toInt32.toInt = n := by
  rw [Int16.toInt_toInt32]
  exact Int16.toInt_ofInt_of_le (by omega) (by omega)
section ZXE
variable {p : Program} {l : Launch} {e : Env} {R : Room} {s : State} {m : MethodId} {args : Array Value} {below : List Frame} {meth : Method} {c : Code} {Q : State → Prop}
variable {D : va_G} {cl : List vw_C} {A : Nat → Prop} {b : Nat} {ex : List Nat} {ad0 : zx_A0} {nL : Nat} {ρ : List Int} {G : zx_G} {h : List zx_C} {lv : List (Nat × zx_V)} {k : Nat × Nat} {sk : List zx_V} {H : Heap} {locs : List Loc} {ls : Array Slot} {kc : List Value} {tys : List (ClassId × FieldType)} {ws : va_W} {lc : List (Nat × Value)}
variable {cc : ByteArray} {pc : Nat} {M : zx_M} {z : List (Nat × zx_T)} {own : String} {Ts nw : List Jvm.Cond} {sts : List (String × String × String × Nat)} {Y : zx_Y} {aos : List String} {dt : List (List Nat)} {xs : Nat → Int32}
theorem zx_xint_ok {n : Option Int} {d : Nat} (hG : zx_ok ρ G) (B : zx_B D cl A b ex ad0 nL s ρ h lv sk H locs ls kc tys ws lc) (hz : zx_xint pc G h lv k sk n d = some z) (K : zx_KK p l e R s m args below meth c Q D cl A b ex ad0 nL ρ z) : ∃ v, n = some v ∧ ∀ w : Int32, w.toInt = v → W p l e R s m args below meth c H locs k.1 k.2 Q (F0 m (pc + d) ls (.int w :: kc)) := by
  unfold zx_xint at hz
  split at hz
  · rename_i v
    exact ⟨v, rfl, fun w hw => zx_push_W hG B hz ⟨w, rfl, by rw [hw]; exact zx_ev_iff.mpr ⟨0, rfl, by simp⟩⟩ K⟩
  · cases hz
theorem zx_dec_lt {x : Int32} : x < 0 ↔ x.toInt < 0 := Int32.lt_iff_toInt_lt
theorem zx_dec_eq {x y : Int32} : x = y ↔ x.toInt - y.toInt = 0 := by
  rw [← Int32.toInt_inj]; omega
theorem zx_dec_lt2 {x y : Int32} : x < y ↔ x.toInt - y.toInt < 0 := by
  rw [Int32.lt_iff_toInt_lt]; omega
theorem zx_dec_le2 {x y : Int32} : x ≤ y ↔ x.toInt - y.toInt ≤ 0 := by
  rw [Int32.le_iff_toInt_le]; omega
end ZXE
end
