/-! zx: how long an instruction is; tables and bytes -/
def zx_len (i : Instr) : Nat := match i with
  | .bipush _ => 2
  | .sipush _ => 3
  | .ldc _ => 2
  | .ldc_w _ => 3
  | .ldc2_w _ => 3
  | .iload _ => 2
  | .lload _ => 2
  | .aload _ => 2
  | .istore _ => 2
  | .lstore _ => 2
  | .astore _ => 2
  | .iinc _ _ => 3
  | .goto _ => 3
  | .ifCond _ _ => 3
  | .if_icmp _ _ => 3
  | .if_acmp _ _ => 3
  | .getfield _ => 3
  | .putfield _ => 3
  | .getstatic _ => 3
  | .new _ => 3
  | .newarray _ => 2
  | .anewarray _ => 3
  | .invokevirtual _ => 3
  | .invokespecial _ => 3
  | .invokestatic _ => 3
  | _ => 1
def zx_istab (i : Instr) : Bool := match i with
  | .tableswitch _ _ _ _ => true
  | _ => false
def zx_tbk (cc : ByteArray) (tbl : List (Nat × Instr × Nat)) : Bool := tbl.all (fun x => decide (decode cc x.1 = .ok (x.2.1, x.2.2)) && (zx_istab x.2.1 || x.2.2 == zx_len x.2.1))
theorem zx_tbk_cut {cc : ByteArray} {l : List (Nat × Instr × Nat)} (n : Nat) (h1 : zx_tbk cc (l.take n) = true) (h2 : zx_tbk cc (l.drop n) = true) : zx_tbk cc l = true := by
  unfold zx_tbk at *
  rw [← List.take_append_drop n l, List.all_append, h1, h2]
  rfl
