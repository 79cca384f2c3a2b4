noncomputable section
/-! zo: the class's opera, learn -/
theorem zo_fit_z {t : Nat} (ht : t = 1) {x : Int32} (hx : x = 0 ∨ x = 1) : ∀ ty, zx_tag ty = t → narrow ty (.int x) = .int x ∧ fits ty (.int x) = true := by
  subst ht
  intro ty h
  rcases hx with rfl | rfl <;> (cases ty <;> first | exact ⟨rfl, rfl⟩ | (simp [zx_tag] at h; done))
section ZOI
variable {p : Program} {l : Launch} {e : Env} {R : Room} {s : State} {mi : MethodId} {args : Array Value} {below : List Frame} {meth : Method} {c : Code} {Q : State → Prop} {D : va_G} {A : Nat → Prop} {ex : List Nat} {nL : Nat} {own : String} {cc : ByteArray} {d : Nat} {md : zx_MD} {tys : List (ClassId × FieldType)}
variable {pc n : Nat} {lv lv' : List (Nat × Value)} {kc : List Value} {ws : va_W}
/-- a place of a row of references is read -/
theorem zo_aald (C : zj_cx p R s mi args meth c A ex nL own cc d md D tys) {q0 t0 a N : Nat} {cA : ClassId} {Cn : String} {f : Nat → Option Nat} {i : Int32} {v : Value} (hd : (pc, Instr.aaload, 1) ∈ md.1) (hn : pc + 1 = n) (ha : ws[q0]? = some (a, .inl (cA, N, .inr (.inr (.inr (.inr f)))))) (ht : tys[t0]? = some (cA, .object Cn)) (hi : vp_in i N) (hz : va_rf (f i.toNatClampNeg) = v) (h : zj_go p l e R s mi args below meth c Q D A nL n lv (v :: kc) ws) : zj_go p l e R s mi args below meth c Q D A nL pc lv (.int i :: .ref a :: kc) ws := by
  subst hn
  subst hz
  exact fun H locs ls hP hD hS hv => va_aldq C.1.1 C.1.2.1 C.2.2.2.2.2 hP q0 t0 ha ht hi (C.2.2.2.2.1 _ hd).1 (h H locs ls hP hD hS hv)
end ZOI
theorem zo_empt_W {l : Launch} {tys : List (ClassId × FieldType)} {ex : List Nat} {ws0 : va_W} {aO : Nat} {FO : List Value} {z : Int32} (h0 : ws0[0]? = some (aO, .inr (10, FO))) (hO10 : FO[10]? = some (.int z)) (hOl : FO.length = 14) : zj_W l 1 17 (zm_X ex tys [.ref aO] ws0) (fun _ _ _ v ws' => v = some (.int z) ∧ ws' = ws0.set 0 (aO, .inr (10, FO.set 10 (.int 0)))) := by
  refine zj_enterW (md := zx_m17) rfl rfl ?_ ?_
  · rintro ex tys av ws ⟨-, -, rfl, -⟩
    exact Nat.le_of_ble_eq_true rfl
  intro p e R s mi args below meth c Q D A ex nL own cc tys ws av hX C hnL KRi KRv KRa
  subst hnL
  obtain ⟨h1, h2, h3, h4⟩ := hX
  subst h1
  subst h2
  subst h3
  subst h4
  refine zj_aload_n C (List.mem_of_getElem? (i := 0) rfl) rfl rfl rfl ?_
  refine zj_get C (List.mem_of_getElem? (i := 1) rfl) rfl rfl h0 rfl hO10 ?_
  refine zj_istore_n C (List.mem_of_getElem? (i := 2) rfl) rfl rfl (by decide) rfl ?_
  refine zj_aload_n C (List.mem_of_getElem? (i := 3) rfl) rfl rfl rfl ?_
  refine zj_iconst (v := 0) C (List.mem_of_getElem? (i := 4) rfl) rfl (by decide) ?_
  refine zj_put C (List.mem_of_getElem? (i := 5) rfl) rfl rfl h0 rfl (by rw [hOl]; decide) rfl (zm_fit_i rfl _) ?_
  refine zj_iload_n C (List.mem_of_getElem? (i := 6) rfl) rfl rfl rfl ?_
  exact KRi 11 _ _ _ (List.mem_of_getElem? (i := 7) rfl) (by decide) (Or.inl rfl) (zx_as_set h0) ⟨rfl, rfl⟩
/-- taken: there is room, all is as told -/
def zo_acc (N : Nat) (h s n : Int) (g : Nat → Int) (t : Nat) : Prop := N < 9 ∧ zo_ar h s n ∧ zo_ok g t
set_option maxHeartbeats 8000000 in
theorem zo_operaC_W {l : Launch} {tys : List (ClassId × FieldType)} {ex : List Nat} {ws0 : va_W} {aO aT aH aY aQ N t tQ : Nat} {FO FH FY : List Value} {fT : Nat → Int32} {cQ : ClassId} {Cn : String} {fQ : Nat → Option Nat} {σ : Nat → Nat} {hh ss ch nn : Int32} (h0 : ws0[0]? = some (aO, .inr (10, FO))) (hO0 : FO[0]? = some (.ref aT)) (hO2 : FO[2]? = some (.ref aH)) (hO9 : FO[9]? = some (.ref aY)) (hO10 : FO[10]? = some (.int (nI t))) (hOl : FO.length = 14) (hT : zj_row tys ws0 1 aT 340 .int fT) (hf : ∀ k, k < 340 → 0 ≤ (fT k).toInt ∧ (fT k).toInt ≤ 255) (h3 : ws0[3]? = some (aH, .inr (2, FH))) (hH0 : FH[0]? = some (.int (nI N))) (hH5 : FH[5]? = some (.ref aQ)) (hHl : FH.length = 12) (h9 : ws0[9]? = some (aQ, .inl (cQ, 9, .inr (.inr (.inr (.inr fQ)))))) (htQ : tys[tQ]? = some (cQ, .object Cn)) (hQ : ∀ k, k < 9 → σ k < 9 ∧ ∃ (a : Nat) (x0 x1 x2 x3 x4 : Int32), fQ k = some a ∧ zo_O tys ws0 (16 + 6 * σ k) a x0 x1 x2 x3 x4) (h212 : ws0[212]? = some (aY, .inr (4, FY))) (hYl : FY.length = 13) (hN : N ≤ 9) (ht : t ≤ 340) (hcc : ch = 0 ∨ ch = 1) : zj_W l 5 16 (zm_X ex tys [.ref aO, .int hh, .int ss, .int ch, .int nn] ws0) (fun _ _ _ v ws' => (∀ k, k < 9 → k ≠ σ N → ws'[16 + 6 * k]? = ws0[16 + 6 * k]?) ∧ (zo_acc N hh.toInt ss.toInt nn.toInt (fun k => (fT k).toInt) t → v = some (.int (nI N)) ∧ ∃ (a : Nat) (x0 x1 x2 x4 : Int32), zo_O tys ws' (16 + 6 * σ N) a x0 x1 x2 (nI (t / 4 - 1)) x4 ∧ ∃ FH', ws'[3]? = some (aH, .inr (2, FH')) ∧ FH'[0]? = some (.int (nI (N + 1)))) ∧ (¬ zo_acc N hh.toInt ss.toInt nn.toInt (fun k => (fT k).toInt) t → v = some (.int (-1)) ∧ ∃ FH', ws'[3]? = some (aH, .inr (2, FH')) ∧ FH'[0]? = some (.int (nI N)))) := by
  refine zj_enterW (md := zx_m16) rfl rfl ?_ ?_
  · rintro ex tys av ws ⟨-, -, rfl, -⟩
    exact Nat.le_of_ble_eq_true rfl
  intro p e R s mi args below meth c Q D A ex nL own cc tys ws av hX C hnL KRi KRv KRa
  subst hnL
  obtain ⟨h1, h2, h3, h4⟩ := hX
  subst h1
  subst h2
  subst h3
  subst h4
  have c0 : (0 : Int32).toInt = 0 := rfl
  have c2 : (2 : Int32).toInt = 2 := rfl
  have c3 : (3 : Int32).toInt = 3 := rfl
  have c6 : (6 : Int32).toInt = 6 := rfl
  have c1 : (1 : Int32).toInt = 1 := rfl
  have c60 : (60 : Int32).toInt = 60 := rfl
  refine zj_aload_n C (List.mem_of_getElem? (i := 0) rfl) rfl rfl rfl ?_
  refine zj_callV (As := []) (rest := []) C (List.mem_of_getElem? (i := 1) rfl) rfl rfl rfl (by decide) (zm_W_mono (zo_empt_W h0 hO10 hOl) (by decide)) rfl rfl h0 rfl (Nat.le_of_ble_eq_true rfl) rfl ⟨rfl, rfl, rfl, rfl⟩ (fun v w2 hw2A hw2Z => ?_)
  obtain ⟨hv, he⟩ := hw2Z
  subst hv
  have q0 : w2[0]? = some (aO, .inr (10, FO.set 10 (.int 0))) := by rw [he]; exact zm_set_self h0
  have hn2 : ∀ i, i ≠ 0 → w2[i]? = ws[i]? := fun i hi => by rw [he]; exact List.getElem?_set_ne (Ne.symm hi)
  clear he
  have q3 := (hn2 3 (by decide)).trans h3
  have q9 := (hn2 9 (by decide)).trans h9
  have q212 := (hn2 212 (by decide)).trans h212
  have qT := zm_row_keep hT (hn2 1 (by decide))
  have hfr2 : ∀ k, k < 9 → k ≠ σ N → w2[16 + 6 * k]? = ws[16 + 6 * k]? := fun k _ _ => hn2 _ (by omega)
  refine zj_istore C (List.mem_of_getElem? (i := 2) rfl) rfl (by decide) rfl ?_
  refine zj_aload_n C (List.mem_of_getElem? (i := 3) rfl) rfl rfl rfl ?_
  refine zj_get C (List.mem_of_getElem? (i := 4) rfl) rfl rfl q0 rfl ((List.getElem?_set_ne (by decide)).trans hO2) ?_
  refine zj_get C (List.mem_of_getElem? (i := 5) rfl) rfl rfl q3 rfl hH0 ?_
  refine zj_bipush (v := 9) C (List.mem_of_getElem? (i := 6) rfl) rfl (by decide) ?_
  refine zj_icmp_lt (tgt := 20) C (List.mem_of_getElem? (i := 7) rfl) rfl (by decide) (fun b1 => ?_) (fun b1 => ?_)
  rotate_left
  · have b1 : ¬ N < 9 := fun h => b1 ((nI_ltI (a := N) (b := 9) (by omega) (by decide)).mpr h)
    refine zj_iconst (v := (-1)) C (List.mem_of_getElem? (i := 8) rfl) rfl (by decide) ?_
    exact KRi 19 _ _ _ (List.mem_of_getElem? (i := 9) rfl) (by decide) (Or.inl rfl) hw2A ⟨hfr2, fun h => absurd h (fun h => b1 h.1), fun _ => ⟨rfl, _, q3, hH0⟩⟩
  have b1 : N < 9 := (nI_ltI (a := N) (b := 9) (by omega) (by decide)).mp b1
  refine zj_iload_n C (List.mem_of_getElem? (i := 10) rfl) rfl rfl rfl ?_
  refine zj_iconst (v := 2) C (List.mem_of_getElem? (i := 11) rfl) rfl (by decide) ?_
  refine zj_bipush (v := 6) C (List.mem_of_getElem? (i := 12) rfl) rfl (by decide) ?_
  refine zj_callS (As := [.int hh, .int 2, .int 6]) (rest := []) C (List.mem_of_getElem? (i := 13) rfl) rfl rfl (Or.inl rfl) (zm_W_mono (zo_within_W (x := hh) (lo := 2) (hi := 6)) (by decide)) rfl rfl (Nat.le_of_ble_eq_true rfl) rfl ⟨rfl, rfl, rfl, rfl⟩ (fun v r1 hr1A hr1Z => ?_)
  obtain ⟨he, hv⟩ := hr1Z
  subst he
  rw [c2, c6] at hv
  rcases hv with ⟨hv, kr1⟩ | ⟨hv, kr1⟩
  rotate_left
  · subst hv
    refine zj_if_eq (tgt := 50) C (List.mem_of_getElem? (i := 14) rfl) rfl (by decide) (fun hd => ?_) (fun hd => ?_)
    rotate_left
    · exact absurd rfl hd
    refine zj_iconst (v := (-1)) C (List.mem_of_getElem? (i := 25) rfl) rfl (by decide) ?_
    exact KRi 51 _ _ _ (List.mem_of_getElem? (i := 26) rfl) (by decide) (Or.inl rfl) hw2A ⟨hfr2, fun h => absurd h (fun h => kr1 h.2.1.1), fun _ => ⟨rfl, _, q3, hH0⟩⟩
  subst hv
  refine zj_if_eq (tgt := 50) C (List.mem_of_getElem? (i := 14) rfl) rfl (by decide) (fun hd => ?_) (fun hd => ?_)
  · exact absurd hd (by decide)
  refine zj_iload_n C (List.mem_of_getElem? (i := 15) rfl) rfl rfl rfl ?_
  refine zj_iconst (v := 0) C (List.mem_of_getElem? (i := 16) rfl) rfl (by decide) ?_
  refine zj_iconst (v := 3) C (List.mem_of_getElem? (i := 17) rfl) rfl (by decide) ?_
  refine zj_callS (As := [.int ss, .int 0, .int 3]) (rest := []) C (List.mem_of_getElem? (i := 18) rfl) rfl rfl (Or.inl rfl) (zm_W_mono (zo_within_W (x := ss) (lo := 0) (hi := 3)) (by decide)) rfl rfl (Nat.le_of_ble_eq_true rfl) rfl ⟨rfl, rfl, rfl, rfl⟩ (fun v r2 hr2A hr2Z => ?_)
  obtain ⟨he, hv⟩ := hr2Z
  subst he
  rw [c0, c3] at hv
  rcases hv with ⟨hv, kr2⟩ | ⟨hv, kr2⟩
  rotate_left
  · subst hv
    refine zj_if_eq (tgt := 50) C (List.mem_of_getElem? (i := 19) rfl) rfl (by decide) (fun hd => ?_) (fun hd => ?_)
    rotate_left
    · exact absurd rfl hd
    refine zj_iconst (v := (-1)) C (List.mem_of_getElem? (i := 25) rfl) rfl (by decide) ?_
    exact KRi 51 _ _ _ (List.mem_of_getElem? (i := 26) rfl) (by decide) (Or.inl rfl) hw2A ⟨hfr2, fun h => absurd h (fun h => kr2 h.2.1.2.1), fun _ => ⟨rfl, _, q3, hH0⟩⟩
  subst hv
  refine zj_if_eq (tgt := 50) C (List.mem_of_getElem? (i := 19) rfl) rfl (by decide) (fun hd => ?_) (fun hd => ?_)
  · exact absurd hd (by decide)
  refine zj_iload C (List.mem_of_getElem? (i := 20) rfl) rfl rfl ?_
  refine zj_iconst (v := 1) C (List.mem_of_getElem? (i := 21) rfl) rfl (by decide) ?_
  refine zj_bipush (v := 60) C (List.mem_of_getElem? (i := 22) rfl) rfl (by decide) ?_
  refine zj_callS (As := [.int nn, .int 1, .int 60]) (rest := []) C (List.mem_of_getElem? (i := 23) rfl) rfl rfl (Or.inl rfl) (zm_W_mono (zo_within_W (x := nn) (lo := 1) (hi := 60)) (by decide)) rfl rfl (Nat.le_of_ble_eq_true rfl) rfl ⟨rfl, rfl, rfl, rfl⟩ (fun v r3 hr3A hr3Z => ?_)
  obtain ⟨he, hv⟩ := hr3Z
  subst he
  rw [c1, c60] at hv
  rcases hv with ⟨hv, kr3⟩ | ⟨hv, kr3⟩
  rotate_left
  · subst hv
    refine zj_if_ne (tgt := 52) C (List.mem_of_getElem? (i := 24) rfl) rfl (by decide) (fun hd => ?_) (fun hd => ?_)
    · exact absurd rfl hd
    refine zj_iconst (v := (-1)) C (List.mem_of_getElem? (i := 25) rfl) rfl (by decide) ?_
    exact KRi 51 _ _ _ (List.mem_of_getElem? (i := 26) rfl) (by decide) (Or.inl rfl) hw2A ⟨hfr2, fun h => absurd h (fun h => kr3 h.2.1.2.2), fun _ => ⟨rfl, _, q3, hH0⟩⟩
  subst hv
  refine zj_if_ne (tgt := 52) C (List.mem_of_getElem? (i := 24) rfl) rfl (by decide) (fun hd => ?_) (fun hd => ?_)
  rotate_left
  · exact absurd hd (by decide)
  obtain ⟨hσ, aN, x0, x1, x2, x3, x4, hQN, hoN⟩ := hQ N b1
  refine zj_aload_n C (List.mem_of_getElem? (i := 27) rfl) rfl rfl rfl ?_
  refine zj_get C (List.mem_of_getElem? (i := 28) rfl) rfl rfl q0 rfl ((List.getElem?_set_ne (by decide)).trans hO2) ?_
  refine zj_get C (List.mem_of_getElem? (i := 29) rfl) rfl rfl q3 rfl hH5 ?_
  refine zj_aload_n C (List.mem_of_getElem? (i := 30) rfl) rfl rfl rfl ?_
  refine zj_get C (List.mem_of_getElem? (i := 31) rfl) rfl rfl q0 rfl ((List.getElem?_set_ne (by decide)).trans hO2) ?_
  refine zj_get C (List.mem_of_getElem? (i := 32) rfl) rfl rfl q3 rfl hH0 ?_
  refine zo_aald C (List.mem_of_getElem? (i := 33) rfl) rfl q9 htQ (zm_in (N := 9) b1 (by decide)) (v := .ref aN) (by rw [nI_clamp (by omega), hQN]; rfl) ?_
  have hoN2 : zo_O tys w2 (16 + 6 * σ N) aN x0 x1 x2 x3 x4 := by
    obtain ⟨b5, b6, b7, b8, b9, r0, ⟨f1, r1⟩, ⟨f2, r2⟩, ⟨f3, r3⟩, ⟨f4, r4⟩, f5, r5⟩ := hoN
    exact ⟨b5, b6, b7, b8, b9, (hn2 _ (by omega)).trans r0, ⟨f1, zm_row_keep r1 (hn2 _ (by omega))⟩, ⟨f2, zm_row_keep r2 (hn2 _ (by omega))⟩, ⟨f3, zm_row_keep r3 (hn2 _ (by omega))⟩, ⟨f4, zm_row_keep r4 (hn2 _ (by omega))⟩, f5, zm_row_keep r5 (hn2 _ (by omega))⟩
  obtain ⟨b5, b6, b7, b8, b9, hpN, -⟩ := id hoN2
  refine zj_astore C (List.mem_of_getElem? (i := 34) rfl) rfl (by decide) rfl ?_
  refine zj_aload C (List.mem_of_getElem? (i := 35) rfl) rfl rfl ?_
  refine zj_aload_n C (List.mem_of_getElem? (i := 36) rfl) rfl rfl rfl ?_
  refine zj_get C (List.mem_of_getElem? (i := 37) rfl) rfl rfl q0 rfl ((List.getElem?_set_ne (by decide)).trans hO0) ?_
  refine zj_iload C (List.mem_of_getElem? (i := 38) rfl) rfl rfl ?_
  refine zj_callV (As := [.ref aT, .int (nI t)]) (rest := []) C (List.mem_of_getElem? (i := 39) rfl) rfl rfl rfl (by decide) (zm_W_mono (zo_tape_W (P := 16 + 6 * σ N) ht (by omega) qT hf hoN2) (by decide)) rfl rfl hpN rfl (Nat.le_of_ble_eq_true rfl) rfl ⟨rfl, rfl, rfl, rfl⟩ (fun v w5 hw5A hw5Z => ?_)
  obtain ⟨hF5, hv⟩ := hw5Z
  have hfr5 : ∀ k, k < 9 → k ≠ σ N → w5[16 + 6 * k]? = ws[16 + 6 * k]? := fun k hk hkN => (hF5 _ (by omega)).trans (hfr2 k hk hkN)
  rcases hv with ⟨hv, hok, ho5⟩ | ⟨hv, hok, -⟩
  rotate_left
  · subst hv
    refine zj_if_ne (tgt := 85) C (List.mem_of_getElem? (i := 40) rfl) rfl (by decide) (fun hd => ?_) (fun hd => ?_)
    · exact absurd rfl hd
    refine zj_iconst (v := (-1)) C (List.mem_of_getElem? (i := 41) rfl) rfl (by decide) ?_
    exact KRi 84 _ _ _ (List.mem_of_getElem? (i := 42) rfl) (by decide) (Or.inl rfl) (hw5A.trans hw2A) ⟨hfr5, fun h => absurd h (fun h => hok h.2.2), fun _ => ⟨rfl, _, ((hF5 3 (by omega)).trans q3), hH0⟩⟩
  subst hv
  refine zj_if_ne (tgt := 85) C (List.mem_of_getElem? (i := 40) rfl) rfl (by decide) (fun hd => ?_) (fun hd => ?_)
  rotate_left
  · exact absurd hd (by decide)
  have p0 := (hF5 0 (by omega)).trans q0
  have p3 := (hF5 3 (by omega)).trans q3
  have p212 := (hF5 212 (by omega)).trans q212
  obtain ⟨d5, d6, d7, d8, d9, hp5, hrest⟩ := ho5
  refine zj_aload C (List.mem_of_getElem? (i := 43) rfl) rfl rfl ?_
  refine zj_iload_n C (List.mem_of_getElem? (i := 44) rfl) rfl rfl rfl ?_
  refine zj_put C (List.mem_of_getElem? (i := 45) rfl) rfl rfl hp5 rfl (Nat.le_of_ble_eq_true rfl) rfl (zm_fit_i rfl _) ?_
  have hny0 : ∀ i, i ≠ 16 + 6 * σ N → (w5.set (16 + 6 * σ N) (aN, .inr (6, [.int hh, .int x1, .int x2, .int (nI (t / 4 - 1)), .int x4, .ref d5, .ref d6, .ref d7, .ref d8, .ref d9])))[i]? = w5[i]? := fun i hi => List.getElem?_set_ne (Ne.symm hi)
  have hAy0 : zx_as (w5.set (16 + 6 * σ N) (aN, .inr (6, [.int hh, .int x1, .int x2, .int (nI (t / 4 - 1)), .int x4, .ref d5, .ref d6, .ref d7, .ref d8, .ref d9]))) = zx_as w5 := zx_as_set hp5
  have hsy0 : (w5.set (16 + 6 * σ N) (aN, .inr (6, [.int hh, .int x1, .int x2, .int (nI (t / 4 - 1)), .int x4, .ref d5, .ref d6, .ref d7, .ref d8, .ref d9])))[16 + 6 * σ N]? = some (aN, .inr (6, [.int hh, .int x1, .int x2, .int (nI (t / 4 - 1)), .int x4, .ref d5, .ref d6, .ref d7, .ref d8, .ref d9])) := zm_set_self hp5
  show zj_go p l e R s mi args below meth c Q D A _ _ _ _ (w5.set (16 + 6 * σ N) (aN, .inr (6, [.int hh, .int x1, .int x2, .int (nI (t / 4 - 1)), .int x4, .ref d5, .ref d6, .ref d7, .ref d8, .ref d9])))
  generalize w5.set (16 + 6 * σ N) (aN, .inr (6, [.int hh, .int x1, .int x2, .int (nI (t / 4 - 1)), .int x4, .ref d5, .ref d6, .ref d7, .ref d8, .ref d9])) = y0 at hny0 hAy0 hsy0 ⊢
  refine zj_aload C (List.mem_of_getElem? (i := 46) rfl) rfl rfl ?_
  refine zj_iload_n C (List.mem_of_getElem? (i := 47) rfl) rfl rfl rfl ?_
  refine zj_put C (List.mem_of_getElem? (i := 48) rfl) rfl rfl hsy0 rfl (Nat.le_of_ble_eq_true rfl) rfl (zm_fit_i rfl _) ?_
  have hny1 : ∀ i, i ≠ 16 + 6 * σ N → (y0.set (16 + 6 * σ N) (aN, .inr (6, [.int hh, .int ss, .int x2, .int (nI (t / 4 - 1)), .int x4, .ref d5, .ref d6, .ref d7, .ref d8, .ref d9])))[i]? = y0[i]? := fun i hi => List.getElem?_set_ne (Ne.symm hi)
  have hAy1 : zx_as (y0.set (16 + 6 * σ N) (aN, .inr (6, [.int hh, .int ss, .int x2, .int (nI (t / 4 - 1)), .int x4, .ref d5, .ref d6, .ref d7, .ref d8, .ref d9]))) = zx_as y0 := zx_as_set hsy0
  have hsy1 : (y0.set (16 + 6 * σ N) (aN, .inr (6, [.int hh, .int ss, .int x2, .int (nI (t / 4 - 1)), .int x4, .ref d5, .ref d6, .ref d7, .ref d8, .ref d9])))[16 + 6 * σ N]? = some (aN, .inr (6, [.int hh, .int ss, .int x2, .int (nI (t / 4 - 1)), .int x4, .ref d5, .ref d6, .ref d7, .ref d8, .ref d9])) := zm_set_self hsy0
  show zj_go p l e R s mi args below meth c Q D A _ _ _ _ (y0.set (16 + 6 * σ N) (aN, .inr (6, [.int hh, .int ss, .int x2, .int (nI (t / 4 - 1)), .int x4, .ref d5, .ref d6, .ref d7, .ref d8, .ref d9])))
  generalize y0.set (16 + 6 * σ N) (aN, .inr (6, [.int hh, .int ss, .int x2, .int (nI (t / 4 - 1)), .int x4, .ref d5, .ref d6, .ref d7, .ref d8, .ref d9])) = y1 at hny1 hAy1 hsy1 ⊢
  refine zj_aload C (List.mem_of_getElem? (i := 49) rfl) rfl rfl ?_
  refine zj_iload_n C (List.mem_of_getElem? (i := 50) rfl) rfl rfl rfl ?_
  refine zj_put C (List.mem_of_getElem? (i := 51) rfl) rfl rfl hsy1 rfl (Nat.le_of_ble_eq_true rfl) rfl (zo_fit_z rfl hcc) ?_
  have hny2 : ∀ i, i ≠ 16 + 6 * σ N → (y1.set (16 + 6 * σ N) (aN, .inr (6, [.int hh, .int ss, .int x2, .int (nI (t / 4 - 1)), .int ch, .ref d5, .ref d6, .ref d7, .ref d8, .ref d9])))[i]? = y1[i]? := fun i hi => List.getElem?_set_ne (Ne.symm hi)
  have hAy2 : zx_as (y1.set (16 + 6 * σ N) (aN, .inr (6, [.int hh, .int ss, .int x2, .int (nI (t / 4 - 1)), .int ch, .ref d5, .ref d6, .ref d7, .ref d8, .ref d9]))) = zx_as y1 := zx_as_set hsy1
  have hsy2 : (y1.set (16 + 6 * σ N) (aN, .inr (6, [.int hh, .int ss, .int x2, .int (nI (t / 4 - 1)), .int ch, .ref d5, .ref d6, .ref d7, .ref d8, .ref d9])))[16 + 6 * σ N]? = some (aN, .inr (6, [.int hh, .int ss, .int x2, .int (nI (t / 4 - 1)), .int ch, .ref d5, .ref d6, .ref d7, .ref d8, .ref d9])) := zm_set_self hsy1
  show zj_go p l e R s mi args below meth c Q D A _ _ _ _ (y1.set (16 + 6 * σ N) (aN, .inr (6, [.int hh, .int ss, .int x2, .int (nI (t / 4 - 1)), .int ch, .ref d5, .ref d6, .ref d7, .ref d8, .ref d9])))
  generalize y1.set (16 + 6 * σ N) (aN, .inr (6, [.int hh, .int ss, .int x2, .int (nI (t / 4 - 1)), .int ch, .ref d5, .ref d6, .ref d7, .ref d8, .ref d9])) = y2 at hny2 hAy2 hsy2 ⊢
  refine zj_aload C (List.mem_of_getElem? (i := 52) rfl) rfl rfl ?_
  refine zj_iload C (List.mem_of_getElem? (i := 53) rfl) rfl rfl ?_
  refine zj_put C (List.mem_of_getElem? (i := 54) rfl) rfl rfl hsy2 rfl (Nat.le_of_ble_eq_true rfl) rfl (zm_fit_i rfl _) ?_
  have hny3 : ∀ i, i ≠ 16 + 6 * σ N → (y2.set (16 + 6 * σ N) (aN, .inr (6, [.int hh, .int ss, .int nn, .int (nI (t / 4 - 1)), .int ch, .ref d5, .ref d6, .ref d7, .ref d8, .ref d9])))[i]? = y2[i]? := fun i hi => List.getElem?_set_ne (Ne.symm hi)
  have hAy3 : zx_as (y2.set (16 + 6 * σ N) (aN, .inr (6, [.int hh, .int ss, .int nn, .int (nI (t / 4 - 1)), .int ch, .ref d5, .ref d6, .ref d7, .ref d8, .ref d9]))) = zx_as y2 := zx_as_set hsy2
  have hsy3 : (y2.set (16 + 6 * σ N) (aN, .inr (6, [.int hh, .int ss, .int nn, .int (nI (t / 4 - 1)), .int ch, .ref d5, .ref d6, .ref d7, .ref d8, .ref d9])))[16 + 6 * σ N]? = some (aN, .inr (6, [.int hh, .int ss, .int nn, .int (nI (t / 4 - 1)), .int ch, .ref d5, .ref d6, .ref d7, .ref d8, .ref d9])) := zm_set_self hsy2
  show zj_go p l e R s mi args below meth c Q D A _ _ _ _ (y2.set (16 + 6 * σ N) (aN, .inr (6, [.int hh, .int ss, .int nn, .int (nI (t / 4 - 1)), .int ch, .ref d5, .ref d6, .ref d7, .ref d8, .ref d9])))
  generalize y2.set (16 + 6 * σ N) (aN, .inr (6, [.int hh, .int ss, .int nn, .int (nI (t / 4 - 1)), .int ch, .ref d5, .ref d6, .ref d7, .ref d8, .ref d9])) = y3 at hny3 hAy3 hsy3 ⊢
  have hny : ∀ i, i ≠ 16 + 6 * σ N → y3[i]? = w5[i]? := fun i hi => (hny3 i hi).trans ((hny2 i hi).trans ((hny1 i hi).trans (hny0 i hi)))
  have s0 := (hny 0 (by omega)).trans p0
  have s3 := (hny 3 (by omega)).trans p3
  have s212 := (hny 212 (by omega)).trans p212
  refine zj_aload_n C (List.mem_of_getElem? (i := 55) rfl) rfl rfl rfl ?_
  refine zj_get C (List.mem_of_getElem? (i := 56) rfl) rfl rfl s0 rfl ((List.getElem?_set_ne (by decide)).trans hO2) ?_
  refine zj_dup C (List.mem_of_getElem? (i := 57) rfl) rfl rfl ?_
  refine zj_get C (List.mem_of_getElem? (i := 58) rfl) rfl rfl s3 rfl hH0 ?_
  refine zj_iconst (v := 1) C (List.mem_of_getElem? (i := 59) rfl) rfl (by decide) ?_
  refine zj_iadd (v := (nI (N + 1))) C (List.mem_of_getElem? (i := 60) rfl) rfl (nI_1 N) ?_
  refine zj_put C (List.mem_of_getElem? (i := 61) rfl) rfl rfl s3 rfl (by rw [hHl]; decide) rfl (zm_fit_i rfl _) ?_
  have hnz1 : ∀ i, i ≠ 3 → (y3.set 3 (aH, .inr (2, FH.set 0 (.int (nI (N + 1))))))[i]? = y3[i]? := fun i hi => List.getElem?_set_ne (Ne.symm hi)
  have hAz1 : zx_as (y3.set 3 (aH, .inr (2, FH.set 0 (.int (nI (N + 1)))))) = zx_as y3 := zx_as_set s3
  have hsz1 : (y3.set 3 (aH, .inr (2, FH.set 0 (.int (nI (N + 1))))))[3]? = some (aH, .inr (2, FH.set 0 (.int (nI (N + 1))))) := zm_set_self s3
  show zj_go p l e R s mi args below meth c Q D A _ _ _ _ (y3.set 3 (aH, .inr (2, FH.set 0 (.int (nI (N + 1))))))
  generalize y3.set 3 (aH, .inr (2, FH.set 0 (.int (nI (N + 1))))) = z1 at hnz1 hAz1 hsz1 ⊢
  have u0 := (hnz1 0 (by decide)).trans s0
  have u212 := (hnz1 212 (by decide)).trans s212
  have hHx : (FH.set 0 (.int (nI (N + 1))))[0]? = some (.int (nI (N + 1))) := by rw [List.getElem?_set]; simp only [if_true]; rw [if_pos (by rw [hHl]; decide)]
  refine zj_aload_n C (List.mem_of_getElem? (i := 62) rfl) rfl rfl rfl ?_
  refine zj_get C (List.mem_of_getElem? (i := 63) rfl) rfl rfl u0 rfl ((List.getElem?_set_ne (by decide)).trans hO9) ?_
  refine zj_iconst (v := 0) C (List.mem_of_getElem? (i := 64) rfl) rfl (by decide) ?_
  refine zj_put C (List.mem_of_getElem? (i := 65) rfl) rfl rfl u212 rfl (by rw [hYl]; decide) rfl (zo_fit_z rfl (Or.inl rfl)) ?_
  have hnz2 : ∀ i, i ≠ 212 → (z1.set 212 (aY, .inr (4, FY.set 12 (.int 0))))[i]? = z1[i]? := fun i hi => List.getElem?_set_ne (Ne.symm hi)
  have hAz2 : zx_as (z1.set 212 (aY, .inr (4, FY.set 12 (.int 0)))) = zx_as z1 := zx_as_set u212
  have hsz2 : (z1.set 212 (aY, .inr (4, FY.set 12 (.int 0))))[212]? = some (aY, .inr (4, FY.set 12 (.int 0))) := zm_set_self u212
  show zj_go p l e R s mi args below meth c Q D A _ _ _ _ (z1.set 212 (aY, .inr (4, FY.set 12 (.int 0))))
  generalize z1.set 212 (aY, .inr (4, FY.set 12 (.int 0))) = z2 at hnz2 hAz2 hsz2 ⊢
  have v0 := (hnz2 0 (by decide)).trans u0
  have v3 := (hnz2 3 (by decide)).trans hsz1
  refine zj_aload_n C (List.mem_of_getElem? (i := 66) rfl) rfl rfl rfl ?_
  refine zj_get C (List.mem_of_getElem? (i := 67) rfl) rfl rfl v0 rfl ((List.getElem?_set_ne (by decide)).trans hO2) ?_
  refine zj_get C (List.mem_of_getElem? (i := 68) rfl) rfl rfl v3 rfl hHx ?_
  refine zj_iconst (v := 1) C (List.mem_of_getElem? (i := 69) rfl) rfl (by decide) ?_
  refine zj_isub (v := (nI N)) C (List.mem_of_getElem? (i := 70) rfl) rfl (pk_sub (a := N + 1) (b := 1) (by omega)) ?_
  have hnz : ∀ i, i ≠ 3 → i ≠ 212 → z2[i]? = y3[i]? := fun i h1 h2 => (hnz2 i h2).trans (hnz1 i h1)
  have hfrz : ∀ k, k < 9 → k ≠ σ N → z2[16 + 6 * k]? = ws[16 + 6 * k]? := fun k hk hkN => (hnz _ (by omega) (by omega)).trans ((hny _ (by omega)).trans (hfr5 k hk hkN))
  obtain ⟨⟨f1, r1⟩, ⟨f2, r2⟩, ⟨f3, r3⟩, ⟨f4, r4⟩, f5, r5⟩ := hrest
  have hoz : zo_O tys z2 (16 + 6 * σ N) aN hh ss nn (nI (t / 4 - 1)) ch := ⟨d5, d6, d7, d8, d9, (hnz _ (by omega) (by omega)).trans hsy3, ⟨f1, zm_row_keep r1 ((hnz _ (by omega) (by omega)).trans (hny _ (by omega)))⟩, ⟨f2, zm_row_keep r2 ((hnz _ (by omega) (by omega)).trans (hny _ (by omega)))⟩, ⟨f3, zm_row_keep r3 ((hnz _ (by omega) (by omega)).trans (hny _ (by omega)))⟩, ⟨f4, zm_row_keep r4 ((hnz _ (by omega) (by omega)).trans (hny _ (by omega)))⟩, f5, zm_row_keep r5 ((hnz _ (by omega) (by omega)).trans (hny _ (by omega)))⟩
  exact KRi 140 _ _ _ (List.mem_of_getElem? (i := 71) rfl) (by decide) (Or.inl rfl) (hAz2.trans (hAz1.trans (hAy3.trans (hAy2.trans (hAy1.trans (hAy0.trans (hw5A.trans hw2A))))))) ⟨hfrz, fun _ => ⟨rfl, aN, hh, ss, nn, ch, hoz, _, v3, hHx⟩, fun h => absurd ⟨b1, ⟨kr1, kr2, kr3⟩, hok⟩ h⟩
end
