noncomputable section
/-! zx: an instruction does on the machine what zx_step0 says -/
section ZXS
variable {p : Program} {l : Launch} {e : Env} {R : Room} {s : State} {m : MethodId} {args : Array Value} {below : List Frame} {meth : Method} {c : Code} {Q : State → Prop}
variable {D : va_G} {cl : List vw_C} {A : Nat → Prop} {b : Nat} {ex : List Nat} {ad0 : zx_A0} {nL : Nat} {ρ : List Int} {G : zx_G} {h : List zx_C} {lv : List (Nat × zx_V)} {k : Nat × Nat} {sk : List zx_V} {H : Heap} {locs : List Loc} {ls : Array Slot} {kc : List Value} {tys : List (ClassId × FieldType)} {ws : va_W} {lc : List (Nat × Value)}
variable {cc : ByteArray} {pc : Nat} {M : zx_M} {z : List (Nat × zx_T)} {own : String} {Ts nw : List Jvm.Cond} {sts : List (String × String × String × Nat)} {Y : zx_Y} {aos : List String} {dt : List (List Nat)} {xs : Nat → Int32}
theorem zx_iald_ok (F : zx_FX p s m args meth c R cc own Ts nw cl A ex nL sts Y aos dt M) (hS : zx_SX b xs A s M ρ) (hd : decode cc pc = .ok (.iaload, 1)) (hG : zx_ok ρ G) (B : zx_B D cl A b ex ad0 nL s ρ h lv sk H locs ls kc tys ws lc) (hz : zx_xiald M Y pc G h lv k sk = some z) (K : zx_KK p l e R s m args below meth c Q D cl A b ex ad0 nL ρ z) : W p l e R s m args below meth c H locs k.1 k.2 Q (F0 m pc ls kc) := by
  unfold zx_xiald at hz
  split at hz
  · exact zx_xsl_ok F hS hd hG B hz K
  · split at hz
    · exact zx_xyl_ok F hd hG B hz K
    · obtain ⟨w, a, kr, i0, t0, cA, tg, n, h1, h2, h3, h4, h5⟩ := zx_xal_ok hG B hz K
      subst h1
      have h2 : tg = 0 := by simpa using h2
      subst h2
      rcases h5 with ⟨-, f, h6, h7⟩ | ⟨h5, -⟩
      · exact va_iald F.1 F.2.1 B.1 B.2.1 i0 t0 h6 h3 h4 hd h7
      · omega
  · cases hz
theorem zx_bald_ok (F : zx_FX p s m args meth c R cc own Ts nw cl A ex nL sts Y aos dt M) (hd : decode cc pc = .ok (.baload, 1)) (hG : zx_ok ρ G) (B : zx_B D cl A b ex ad0 nL s ρ h lv sk H locs ls kc tys ws lc) (hz : zx_xal pc G h lv k sk (fun t => t == 1 || t == 2) = some z) (K : zx_KK p l e R s m args below meth c Q D cl A b ex ad0 nL ρ z) : W p l e R s m args below meth c H locs k.1 k.2 Q (F0 m pc ls kc) := by
  obtain ⟨w, a, kr, i0, t0, cA, tg, n, h1, h2, h3, h4, h5⟩ := zx_xal_ok hG B hz K
  subst h1
  simp only [Bool.or_eq_true, beq_iff_eq] at h2
  rcases h5 with ⟨-, f, h6, h7⟩ | ⟨h5, -⟩
  · rcases h2 with h2 | h2
    · subst h2
      exact va_bald F.1 F.2.1 B.1 B.2.1 i0 t0 h6 h3 h4 hd h7
    · subst h2
      exact va_zald F.1 F.2.1 B.1 B.2.1 i0 t0 h6 h3 h4 hd h7
  · omega
theorem zx_aald_ok (F : zx_FX p s m args meth c R cc own Ts nw cl A ex nL sts Y aos dt M) (hd : decode cc pc = .ok (.aaload, 1)) (hG : zx_ok ρ G) (B : zx_B D cl A b ex ad0 nL s ρ h lv sk H locs ls kc tys ws lc) (hz : zx_xal pc G h lv k sk (fun t => Nat.ble 3 t) = some z) (K : zx_KK p l e R s m args below meth c Q D cl A b ex ad0 nL ρ z) : W p l e R s m args below meth c H locs k.1 k.2 Q (F0 m pc ls kc) := by
  obtain ⟨w, a, kr, i0, t0, cA, tg, n, h1, h2, h3, h4, h5⟩ := zx_xal_ok hG B hz K
  subst h1
  have h2 : 3 ≤ tg := Nat.le_of_ble_eq_true h2
  rcases h5 with ⟨h5, -⟩ | ⟨-, f, h6, h7⟩
  · omega
  · obtain ⟨j, rfl⟩ : ∃ j, tg = j + 3 := ⟨tg - 3, by omega⟩
    exact va_aldq F.1 F.2.1 B.1 B.2.1 i0 t0 h6 h3 h4 hd h7
theorem zx_iast_ok (hkk : zx_wk2 ad0.2 sk = true) (F : zx_FX p s m args meth c R cc own Ts nw cl A ex nL sts Y aos dt M) (hd : decode cc pc = .ok (.iastore, 1)) (hG : zx_ok ρ G) (B : zx_B D cl A b ex ad0 nL s ρ h lv sk H locs ls kc tys ws lc) (hz : zx_xas pc G h lv k sk false = some z) (K : zx_KK p l e R s m args below meth c Q D cl A b ex ad0 nL ρ z) : W p l e R s m args below meth c H locs k.1 k.2 Q (F0 m pc ls kc) := by
  obtain ⟨v, w, a, kr, i0, t0, cA, tg, n, f, h1, h2, h3, h4, h5, h6⟩ := zx_xas_ok hkk hG B hz K
  subst h1
  rw [if_neg (by decide)] at h2
  subst h2
  exact va_iast F.1 F.2.1 B.1 B.2.1 B.2.2.1 B.2.2.2.1.1 i0 t0 h5 h3 h4 hd h6
theorem zx_bast_ok (hkk : zx_wk2 ad0.2 sk = true) (F : zx_FX p s m args meth c R cc own Ts nw cl A ex nL sts Y aos dt M) (hd : decode cc pc = .ok (.bastore, 1)) (hG : zx_ok ρ G) (B : zx_B D cl A b ex ad0 nL s ρ h lv sk H locs ls kc tys ws lc) (hz : zx_xas pc G h lv k sk true = some z) (K : zx_KK p l e R s m args below meth c Q D cl A b ex ad0 nL ρ z) : W p l e R s m args below meth c H locs k.1 k.2 Q (F0 m pc ls kc) := by
  obtain ⟨v, w, a, kr, i0, t0, cA, tg, n, f, h1, h2, h3, h4, h5, h6⟩ := zx_xas_ok hkk hG B hz K
  subst h1
  rw [if_pos rfl] at h2
  rcases h2 with ⟨h2, h7⟩ | ⟨h2, h7⟩
  · subst h2
    exact va_bast F.1 F.2.1 B.1 B.2.1 B.2.2.1 B.2.2.2.1.1 i0 t0 h5 h3 h4 hd (by rw [h7]; exact h6)
  · subst h2
    exact va_zast F.1 F.2.1 B.1 B.2.1 B.2.2.1 B.2.2.2.1.1 i0 t0 h5 h3 h4 hd (by rw [h7]; exact h6)
theorem zx_lbin_ok (hG : zx_ok ρ G) (B : zx_B D cl A b ex ad0 nL s ρ h lv sk H locs ls kc tys ws lc) (hz : zx_xlbin pc G h lv k sk = some z) (K : zx_KK p l e R s m args below meth c Q D cl A b ex ad0 nL ρ z) : ∃ (x y : Int64) (kr : List Value), kc = .long y :: .long x :: kr ∧ ∀ v : Int64, W p l e R s m args below meth c H locs k.1 k.2 Q (F0 m (pc + 1) ls (.long v :: kr)) := by
  unfold zx_xlbin at hz
  split at hz
  · rename_i r
    obtain ⟨y, kr0, rfl, B0⟩ := zx_topl B
    obtain ⟨x, kr, rfl, B1⟩ := zx_topl B0
    exact ⟨x, y, kr, rfl, fun v => zx_push_W (v := zx_lg) hG B1 hz ⟨v, rfl⟩ K⟩
  · cases hz
theorem zx_lsh_ok (hG : zx_ok ρ G) (B : zx_B D cl A b ex ad0 nL s ρ h lv sk H locs ls kc tys ws lc) (hz : zx_xlsh pc G h lv k sk = some z) (K : zx_KK p l e R s m args below meth c Q D cl A b ex ad0 nL ρ z) : ∃ (x : Int64) (y : Int32) (kr : List Value), kc = .int y :: .long x :: kr ∧ ∀ v : Int64, W p l e R s m args below meth c H locs k.1 k.2 Q (F0 m (pc + 1) ls (.long v :: kr)) := by
  unfold zx_xlsh at hz
  split at hz
  · rename_i e1 r
    obtain ⟨y, kr0, rfl, -, B0⟩ := zx_topi B
    obtain ⟨x, kr, rfl, B1⟩ := zx_topl B0
    exact ⟨x, y, kr, rfl, fun v => zx_push_W (v := zx_lg) hG B1 hz ⟨v, rfl⟩ K⟩
  · cases hz
theorem zx_step0_ok {i : Instr} {len : Nat} (hkk : zx_wkk ad0.2 i sk = true) (F : zx_FX p s m args meth c R cc own Ts nw cl A ex nL sts Y aos dt M) (hS : zx_SX b xs A s M ρ) (harr : ∀ ty ∈ [FieldType.int, FieldType.byte, FieldType.boolean, FieldType.long], Jvm.Cond.arrayClass ty ∈ Ts) (hd : decode cc pc = .ok (i, len)) (hlen : zx_istab i = true ∨ len = zx_len i) (hG : zx_ok ρ G) (B : zx_B D cl A b ex ad0 nL s ρ h lv sk H locs ls kc tys ws lc) (hz : zx_step0 M Y dt pc i G h lv k sk = some z) (K : zx_KK p l e R s m args below meth c Q D cl A b ex ad0 nL ρ z) : W p l e R s m args below meth c H locs k.1 k.2 Q (F0 m pc ls kc) := by
  obtain ⟨hx, hb, hown, hts, hnw, hA, hR, hin, hnL, hCX, hao, hCK, hMK⟩ := id F
  by_cases hT : zx_istab i = true
  · cases i
    case tableswitch d lo hi offs =>
      obtain ⟨x, kr, t, h1, h2, h3⟩ := zx_xtab_ok hG B hz K
      subst h1
      rcases h3 with ⟨h3, h4⟩ | ⟨h3, h4, off, h5, h6⟩
      · exact lv_tableOut hx hb hd h3 h4 h2
      · exact lv_tableIn hx hb hd h3 h4 h5 h6 h2
    all_goals exact absurd hT (fun q => nomatch (show false = true from q))
  · have hl : len = zx_len i := hlen.resolve_left hT
    subst hl
    cases i
    case iconst n => exact lv_iconst (v := Int32.ofInt n) hx hb hd rfl (zx_xk_ok hG B hz K (fun h1 h2 => zx_ofI (by omega) (by omega)))
    case bipush n => exact lv_bipush hx hb hd rfl (zx_xk_ok hG B hz K (fun h1 h2 => zx_b8 h1 h2))
    case sipush n => exact lv_sipush hx hb hd rfl (zx_xk_ok hG B hz K (fun h1 h2 => zx_b16 h1 h2))
    case ldc ix =>
      obtain ⟨v, h1, h2⟩ := zx_xint_ok hG B hz K
      obtain ⟨w, h3, h4⟩ := hMK.2.2.2.1 ix v h1
      exact lv_ldc hx hb hown (hts _ h4) hd (h2 w h3)
    case ldc_w ix =>
      obtain ⟨v, h1, h2⟩ := zx_xint_ok hG B hz K
      obtain ⟨w, h3, h4⟩ := hMK.2.2.2.1 ix v h1
      exact lv_ldcw hx hb hown (hts _ h4) hd (h2 w h3)
    case ldc2_w ix =>
      have hz : zx_xldc2 M pc G h lv k sk ix = some z := hz
      unfold zx_xldc2 at hz
      split at hz
      · rename_i h1
        obtain ⟨w, h2⟩ := hMK.2.2.2.2.1 ix h1
        exact lv_ldc2 hx hb hown (hts _ h2) hd (zx_push_W (v := zx_lg) hG B hz ⟨w, rfl⟩ K)
      · cases hz
    case lconst n => exact lv_lconst hx hb hd rfl (zx_push_W (v := zx_lg) hG B hz ⟨_, rfl⟩ K)
    case iload n =>
      obtain ⟨w, h1, h2⟩ := zx_xld_ok hG B hz K
      exact lv_iload hx hb hd h1 h2
    case iload_n n =>
      obtain ⟨w, h1, h2⟩ := zx_xld_ok hG B hz K
      exact lv_iload_n hx hb hd rfl h1 h2
    case lload n =>
      obtain ⟨w, h1, h2⟩ := zx_xlld_ok hG B hz K
      exact lv_lload hx hb hd h1 h2
    case lload_n n =>
      obtain ⟨w, h1, h2⟩ := zx_xlld_ok hG B hz K
      exact lv_lload_n hx hb hd rfl h1 h2
    case aload n =>
      obtain ⟨w, h1, h2⟩ := zx_xald_ok hG B hz K
      exact lv_aload hx hb hd h1 h2
    case aload_n n =>
      obtain ⟨w, h1, h2⟩ := zx_xald_ok hG B hz K
      exact lv_aload_n hx hb hd rfl h1 h2
    case istore n =>
      obtain ⟨w, kr, h1, h2, h3⟩ := zx_xst_ok hG hnL B hz K
      subst h1
      exact lv_istore hx hb hd B.2.2.2.2.2.2.1 h2 rfl h3
    case istore_n n =>
      obtain ⟨w, kr, h1, h2, h3⟩ := zx_xst_ok hG hnL B hz K
      subst h1
      exact lv_istore_n hx hb hd rfl B.2.2.2.2.2.2.1 h2 rfl h3
    case lstore n =>
      obtain ⟨w, kr, h1, h2, h3⟩ := zx_xlst_ok hG hnL B hz K
      subst h1
      exact lv_lstore hx hb hd B.2.2.2.2.2.2.1 h2 rfl h3
    case lstore_n n =>
      obtain ⟨w, kr, h1, h2, h3⟩ := zx_xlst_ok hG hnL B hz K
      subst h1
      exact lv_lstore_n hx hb hd rfl B.2.2.2.2.2.2.1 h2 rfl h3
    case astore n =>
      obtain ⟨w, kr, h1, h2, h3⟩ := zx_xast_ok hG hnL B hz K
      subst h1
      exact lv_astore hx hb hd B.2.2.2.2.2.2.1 h2 rfl h3
    case astore_n n =>
      obtain ⟨w, kr, h1, h2, h3⟩ := zx_xast_ok hG hnL B hz K
      subst h1
      exact lv_astore_n hx hb hd rfl B.2.2.2.2.2.2.1 h2 rfl h3
    case iinc n c0 =>
      obtain ⟨w, j, h1, h2, h3⟩ := zx_xinc_ok hG hnL B hz K
      exact lv_iinc hx hb hd B.2.2.2.2.2.2.1 h1 rfl h2 rfl h3
    case iadd =>
      obtain ⟨x, y, kr, e1, e2, q, h1, h2, h3, hq, h4⟩ := zx_xbin_ok B hz K
      subst h1
      exact lv_iadd hx hb hd (h4 _ (zx_val_ok hG hq (zx_add_ev h2 h3) (fun g1 g2 => zx_addI x y g1 g2)))
    case isub =>
      obtain ⟨x, y, kr, e1, e2, q, h1, h2, h3, hq, h4⟩ := zx_xbin_ok B hz K
      subst h1
      exact lv_isub hx hb hd (h4 _ (zx_val_ok hG hq (zx_sub_ev h2 h3) (fun g1 g2 => zx_subI x y g1 g2)))
    case imul =>
      obtain ⟨x, y, kr, e1, e2, q, h1, h2, h3, hq, h4⟩ := zx_xbin_ok B hz K
      subst h1
      exact lv_imul hx hb hd (h4 _ (zx_mul_ok hG h2 h3 hq))
    case idiv =>
      obtain ⟨x, y, kr, e1, e2, q, h1, h2, h3, hq, h4⟩ := zx_xbin_ok B hz K
      subst h1
      exact lv_idiv hx hb hd (zx_div_ok (b := b) (ex := ex) (ad := zx_as ws) hG h2 h3 hq).1 (h4 _ (zx_div_ok hG h2 h3 hq).2)
    case irem =>
      obtain ⟨x, y, kr, e1, e2, q, h1, h2, h3, hq, h4⟩ := zx_xbin_ok B hz K
      subst h1
      exact lv_irem hx hb hd (zx_rem_ok (b := b) (ex := ex) (ad := zx_as ws) hG h2 h3 hq).1 (h4 _ (zx_rem_ok hG h2 h3 hq).2)
    case iand =>
      obtain ⟨x, y, kr, e1, e2, q, h1, h2, h3, hq, h4⟩ := zx_xbin_ok B hz K
      subst h1
      exact lv_iand hx hb hd (h4 _ (zx_and_ok hG h2 h3 hq))
    case ior =>
      obtain ⟨x, y, kr, e1, e2, q, h1, h2, h3, hq, h4⟩ := zx_xbin_ok B hz K
      subst h1
      exact lv_ior hx hb hd (h4 _ (by cases hq; exact zx_full_ok hG))
    case ixor =>
      obtain ⟨x, y, kr, e1, e2, q, h1, h2, h3, hq, h4⟩ := zx_xbin_ok B hz K
      subst h1
      exact lv_ixor hx hb hd (h4 _ (by cases hq; exact zx_full_ok hG))
    case ishl =>
      obtain ⟨x, y, kr, e1, e2, q, h1, h2, h3, hq, h4⟩ := zx_xbin_ok B hz K
      subst h1
      exact lv_ishl hx hb hd (h4 _ (by cases hq; exact zx_full_ok hG))
    case ishr =>
      obtain ⟨x, y, kr, e1, e2, q, h1, h2, h3, hq, h4⟩ := zx_xbin_ok B hz K
      subst h1
      exact lv_ishr hx hb hd (h4 _ (by cases hq; exact zx_full_ok hG))
    case i2b =>
      have hz : zx_xi2b pc G h lv k sk = some z := hz
      unfold zx_xi2b at hz
      split at hz
      · rename_i x1 r
        obtain ⟨x, kr, rfl, h2, B1⟩ := zx_topi B
        split at hz
        · rename_i t ht
          obtain ⟨q1, q2⟩ := zx_rng_ok hG ht h2
          have hnar : ∀ w : Int32, -128 ≤ w.toInt8.toInt32.toInt ∧ w.toInt8.toInt32.toInt ≤ 127 := by
            intro w
            rw [Int8.toInt_toInt32]
            exact ⟨Int8.le_toInt _, by have := Int8.toInt_lt w.toInt8; omega⟩
          by_cases hi : zx_in t (-128) 127 = true
          · rw [if_pos hi] at hz
            refine lv_i2b hx hb hd rfl (zx_go_W B1 hz (fun q hq => ?_) K)
            cases hq
            obtain ⟨q3, q4⟩ := zx_in_iff.mp hi
            have h9 : x.toInt8.toInt32 = x := zx_nar8 (w := x) (by omega) (by omega)
            rw [h9]
            exact zx_same_ok hG h2
          · rw [if_neg hi] at hz
            refine lv_i2b hx hb hd rfl (zx_go_W B1 hz (fun q hq => ?_) K)
            cases hq
            exact zx_fr_ok hG (hnar x).1 (hnar x).2
        · cases hz
      · cases hz
    case i2l =>
      have hz : zx_xi2l pc G h lv k sk = some z := hz
      unfold zx_xi2l at hz
      split at hz
      · rename_i x1 r
        obtain ⟨x, kr, rfl, h2, B1⟩ := zx_topi B
        exact lv_i2l hx hb hd rfl (zx_push_W (v := zx_lg) hG B1 hz ⟨_, rfl⟩ K)
      · cases hz
    case l2i =>
      have hz : zx_xl2i pc G h lv k sk = some z := hz
      unfold zx_xl2i at hz
      split at hz
      · rename_i r
        obtain ⟨x, kr, rfl, B1⟩ := zx_topl B
        exact lv_l2i hx hb hd rfl (zx_go_W B1 hz (fun q hq => by cases hq; exact zx_full_ok hG) K)
      · cases hz
    case land =>
      obtain ⟨x, y, kr, h1, h2⟩ := zx_lbin_ok hG B hz K
      subst h1
      exact lv_land hx hb hd (h2 _)
    case lor =>
      obtain ⟨x, y, kr, h1, h2⟩ := zx_lbin_ok hG B hz K
      subst h1
      exact lv_lor hx hb hd (h2 _)
    case lxor =>
      obtain ⟨x, y, kr, h1, h2⟩ := zx_lbin_ok hG B hz K
      subst h1
      exact lv_lxor hx hb hd (h2 _)
    case lshl =>
      obtain ⟨x, y, kr, h1, h2⟩ := zx_lsh_ok hG B hz K
      subst h1
      exact lv_lshl hx hb hd rfl (h2 _)
    case lshr =>
      obtain ⟨x, y, kr, h1, h2⟩ := zx_lsh_ok hG B hz K
      subst h1
      exact lv_lshr hx hb hd rfl (h2 _)
    case lcmp =>
      have hz : zx_xlcmp pc G h lv k sk = some z := hz
      unfold zx_xlcmp at hz
      split at hz
      · rename_i r
        obtain ⟨y, kr0, rfl, B0⟩ := zx_topl B
        obtain ⟨x, kr, rfl, B1⟩ := zx_topl B0
        exact W.lcmp hx hb hd (zx_go_W B1 hz (fun q hq => by cases hq; exact zx_full_ok hG) K)
      · cases hz
    case dup =>
      have hz : zx_xdup pc G h lv k sk = some z := hz
      unfold zx_xdup at hz
      split at hz
      · rename_i v r
        obtain ⟨x, kr, rfl, hv, B1⟩ := zx_top1 B
        split at hz
        · rename_i hc
          exact lv_dup hx hb hd (by rw [zx_R_cat hv]; exact hc) (zx_push_W hG B hz hv K)
        · cases hz
      · cases hz
    case pop =>
      have hz : zx_xpop pc G h lv k sk = some z := hz
      unfold zx_xpop at hz
      split at hz
      · rename_i v r
        obtain ⟨x, kr, rfl, hv, B1⟩ := zx_top1 B
        split at hz
        · rename_i hc
          exact lv_pop hx hb hd (by rw [zx_R_cat hv]; exact hc) (zx_K1 K (zx_one hz) (zx_J_same hG B1))
        · cases hz
      · cases hz
    case dup2 =>
      have hz : zx_xdup2 pc G h lv k sk = some z := hz
      unfold zx_xdup2 at hz
      split at hz
      · rename_i v w r
        obtain ⟨x, kr0, rfl, hv, B1⟩ := zx_top1 B
        obtain ⟨y, kr, rfl, hw, B2⟩ := zx_top1 B1
        split at hz
        · rename_i hc
          exact lv_dup2_11 hx hb hd (by rw [zx_R_cat hv]; exact hc.1) (by rw [zx_R_cat hw]; exact hc.2) (zx_K1 K (zx_one hz) (zx_J_same hG (zx_B_sk B ⟨hv, hw, hv, hw, B2.2.2.2.2.2.2.2⟩)))
        · cases hz
      · cases hz
    case goto off =>
      have hz : zx_xgoto pc G h lv k sk off = some z := hz
      unfold zx_xgoto at hz
      split at hz
      · rename_i t ht
        exact lv_goto hx hb hd (zx_tg_ok ht) (zx_K1 K (zx_one hz) (zx_J_same hG B))
      · cases hz
    case ifCond cn off =>
      obtain ⟨x, kr, t, h1, h2, h3, h4⟩ := zx_xif_ok hG B hz K
      subst h1
      have e0 : (0 : Int32).toInt = 0 := rfl
      cases cn
      · exact lv_if_eq hx hb hd h2 (fun q => h3 (by show x.toInt = 0; rw [q]; rfl)) (fun q => h4 (fun g => q (Int32.toInt_inj.mp g)))
      · exact lv_if_ne hx hb hd h2 (fun q => h3 (fun g => q (Int32.toInt_inj.mp g))) (fun q => h4 (fun g => g (by rw [q]; rfl)))
      · exact lv_if_lt hx hb hd h2 (fun q => h3 (zx_dec_lt.mp q)) (fun q => h4 (fun g => q (zx_dec_lt.mpr g)))
      · exact lv_if_ge hx hb hd h2 (fun q => h3 (by have := Int32.le_iff_toInt_le.mp q; rwa [e0] at this)) (fun q => h4 (fun g => q (Int32.le_iff_toInt_le.mpr (by rw [e0]; exact g))))
      · exact lv_if_gt hx hb hd h2 (fun q => h3 (by have := Int32.lt_iff_toInt_lt.mp q; rwa [e0] at this)) (fun q => h4 (fun g => q (Int32.lt_iff_toInt_lt.mpr (by rw [e0]; exact g))))
      · exact lv_if_le hx hb hd h2 (fun q => h3 (by have := Int32.le_iff_toInt_le.mp q; rwa [e0] at this)) (fun q => h4 (fun g => q (Int32.le_iff_toInt_le.mpr (by rw [e0]; exact g))))
    case if_icmp cn off =>
      obtain ⟨x, y, kr, t, h1, h2, h3, h4⟩ := zx_xicmp_ok hG B hz K
      subst h1
      cases cn
      · exact lv_icmp_eq hx hb hd h2 (fun q => h3 (zx_dec_eq.mp q)) (fun q => h4 (fun g => q (zx_dec_eq.mpr g)))
      · exact lv_icmp_ne hx hb hd h2 (fun q => h3 (fun g => q (zx_dec_eq.mpr g))) (fun q => h4 (fun g => g (zx_dec_eq.mp q)))
      · exact lv_icmp_lt hx hb hd h2 (fun q => h3 (zx_dec_lt2.mp q)) (fun q => h4 (fun g => q (zx_dec_lt2.mpr g)))
      · exact lv_icmp_ge hx hb hd h2 (fun q => h3 (by have := Int32.le_iff_toInt_le.mp q; show 0 ≤ x.toInt - y.toInt; omega)) (fun q => h4 (fun g => q (Int32.le_iff_toInt_le.mpr (by have g : 0 ≤ x.toInt - y.toInt := g; omega))))
      · exact lv_icmp_gt hx hb hd h2 (fun q => h3 (by have := Int32.lt_iff_toInt_lt.mp q; show 0 < x.toInt - y.toInt; omega)) (fun q => h4 (fun g => q (Int32.lt_iff_toInt_lt.mpr (by have g : 0 < x.toInt - y.toInt := g; omega))))
      · exact lv_icmp_le hx hb hd h2 (fun q => h3 (zx_dec_le2.mp q)) (fun q => h4 (fun g => q (zx_dec_le2.mpr g)))
    case getfield ix => exact zx_xget_ok F hd hG B hz K
    case putfield ix => exact zx_xput_ok hkk F hd hG B hz K
    case getstatic ix => exact zx_xgs_ok F hd hG B hz K
    case iaload => exact zx_iald_ok F hS hd hG B hz K
    case baload => exact zx_bald_ok F hd hG B hz K
    case aaload => exact zx_aald_ok F hd hG B hz K
    case iastore => exact zx_iast_ok hkk F hd hG B hz K
    case bastore => exact zx_bast_ok hkk F hd hG B hz K
    case aastore => exact zx_xqs_ok hkk F hd hG B hz K
    case arraylength =>
      have hz : zx_xalen M Y pc G h lv k sk = some z := hz
      unfold zx_xalen at hz
      split at hz
      · exact zx_xsn_ok F hS hd hG B hz K
      · split at hz
        · exact zx_xyn_ok F hd hG B hz K
        · exact zx_xlen_ok F hd hG B hz K
      · cases hz
    case new ix => exact zx_xnew_ok F hd hG B hz K
    case newarray a =>
      refine zx_xna_ok F (fun ty hty => ?_) hd hG B hz K
      have hz : zx_xna M pc G h lv k sk a = some z := hz
      refine harr ty ?_
      subst hty
      cases a <;> first | decide | skip
      all_goals
        exfalso
        unfold zx_xna at hz
        split at hz
        · split at hz
          · cases hz
          · cases hz
        · cases hz
    case anewarray ix => exact zx_xnq_ok F hd hG B hz K
    case tableswitch d lo hi offs => exact absurd rfl hT
    all_goals exact nomatch (show (none : zx_O) = some z from hz)
end ZXS
end
