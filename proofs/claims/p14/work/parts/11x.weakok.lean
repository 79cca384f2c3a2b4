noncomputable section
/-! zw: they do on the machine what is said -/
section ZWO
variable {p : Program} {l : Launch} {e : Env} {R : Room} {s : State} {m : MethodId} {args : Array Value} {below : List Frame} {meth : Method} {c : Code} {Q : State → Prop}
variable {D : va_G} {cl : List vw_C} {A : Nat → Prop} {b : Nat} {ex : List Nat} {ad0 : zx_A0} {nL : Nat} {ρ : List Int} {G : zx_G} {h : List zx_C} {lv : List (Nat × zx_V)} {k : Nat × Nat} {sk : List zx_V} {H : Heap} {locs : List Loc} {ls : Array Slot} {kc : List Value} {tys : List (ClassId × FieldType)} {ws : va_W} {lc : List (Nat × Value)}
variable {cc : ByteArray} {pc : Nat} {M : zx_M} {z : List (Nat × zx_T)} {own : String} {Ts nw : List Jvm.Cond} {sts : List (String × String × String × Nat)} {Y : zx_Y} {aos : List String} {dt : List (List Nat)} {xs : Nat → Int32}
theorem zw_or_eq {a d : zx_O} {z : List (Nat × zx_T)} (h : zw_or a d = some z) : a = some z ∨ d = some z := by
  unfold zw_or at h
  split at h
  · exact Or.inl h
  · exact Or.inr h
theorem zw_xget_ok {ix : Nat} (F : zx_FX p s m args meth c R cc own Ts nw cl A ex nL sts Y aos dt M) (hd : decode cc pc = .ok (.getfield ix, 3)) (hG : zx_ok ρ G) (B : zx_B D cl A b ex ad0 nL s ρ h lv sk H locs ls kc tys ws lc) (hz : zw_xget M pc G h lv k sk ix = some z) (K : zx_KK p l e R s m args below meth c Q D cl A b ex ad0 nL ρ z) : W p l e R s m args below meth c H locs k.1 k.2 Q (F0 m pc ls kc) := by
  obtain ⟨hx, hb, hown, hts, hnw, hA, hR, hin, hnL, hCX, hao, hCK, hMK⟩ := F
  unfold zw_xget at hz
  split at hz
  · rename_i q hq
    split at hz
    · rename_i ids r
      obtain ⟨x, kr, rfl, hv, B1⟩ := zx_top1 B
      rcases hv with ⟨h4, -⟩ | ⟨i0, a, h4, h5, rfl⟩
      · cases h4
      · split at hz
        · rename_i sl hsl
          obtain ⟨t, h6, h7⟩ := zw_fold_ok (b := b) (ex := ex) (ad := zx_as ws) hG hsl h4
          unfold zw_sl at h6
          simp only [zy_get_eq, zy_set_eq] at h6
          split at h6
          · cases h6
          · rename_i hi
            split at h6
            · rename_i o ho
              split at h6
              · rename_i hoq
                obtain ⟨en, g1, fs, rfl, g2⟩ := zx_cell B1 hi h5 ho
                obtain ⟨fv, g3, g4⟩ := zx_F2_get g2 h6
                obtain ⟨C, T, N, ty, m1, m2, m3, m4, m5, m6, m7⟩ := hMK.1 ix q hq
                exact va_get (D := D) (C := C) (T := T) (N := N) hx hb hts (hCK _ _ _ _ m1).1 hown B1.1 B1.2.1 (i0 - 64) g1 (by rw [hoq]; exact m1) q.2.1 m2 (hts _ m3) (fun _ h9 => h9) g3 hd (zx_xslot_W hG B1 hz (h7 _ g4) K)
              · cases h6
            · cases h6
        · cases hz
    · cases hz
  · cases hz
theorem zw_xal_ok {ok : Nat → Bool} (hG : zx_ok ρ G) (B : zx_B D cl A b ex ad0 nL s ρ h lv sk H locs ls kc tys ws lc) (hz : zw_xal pc G h lv k sk ok = some z) (K : zx_KK p l e R s m args below meth c Q D cl A b ex ad0 nL ρ z) : ∃ (w : Int32) (a : Nat) (kr : List Value) (i0 t0 : Nat) (cA : ClassId) (tg n : Nat), kc = .int w :: .ref a :: kr ∧ ok tg = true ∧ tys[t0]? = some (cA, zx_ty cl tg) ∧ vp_in w n ∧
    ((tg < 3 ∧ ∃ f : Nat → Int32, ws[i0]? = some (a, .inl (cA, n, .inl f)) ∧ W p l e R s m args below meth c H locs k.1 k.2 Q (F0 m (pc + 1) ls (.int (f w.toNatClampNeg) :: kr))) ∨
     (3 ≤ tg ∧ ∃ f : Nat → Option Nat, ws[i0]? = some (a, .inl (cA, n, .inr (.inr (.inr (.inr f))))) ∧ W p l e R s m args below meth c H locs k.1 k.2 Q (F0 m (pc + 1) ls (va_rf (f w.toNatClampNeg) :: kr)))) := by
  unfold zw_xal at hz
  split at hz
  · rename_i e1 ids r
    obtain ⟨w, kr0, rfl, he, B0⟩ := zx_topi B
    obtain ⟨x2, kr, rfl, hv2, B1⟩ := zx_top1 B0
    rcases hv2 with ⟨h4, -⟩ | ⟨i0, a, h4, h5, rfl⟩
    · cases h4
    · split at hz
      · rename_i t ht
        obtain ⟨q1, q2⟩ := zx_rng_ok hG ht he
        split at hz
        · rename_i sl hsl
          obtain ⟨u, h6, h7⟩ := zw_fold_ok (b := b) (ex := ex) (ad := zx_as ws) hG hsl h4
          unfold zw_ar at h6
          simp only [zy_get_eq, zy_set_eq] at h6
          split at h6
          · cases h6
          · rename_i hi
            split at h6
            · rename_i ar har
              split at h6
              · rename_i hc
                obtain ⟨c0, c1, c2⟩ := hc
                rw [Bool.and_eq_true] at c0
                obtain ⟨hok, hs⟩ := c0
                split at h6
                · rename_i sl0 hl0
                  cases h6
                  obtain ⟨en, g1, cA, t0, g2, g3⟩ := zx_cell B1 hi h5 har
                  have hvp : vp_in w ar.2.1 := vp_in_iff.mpr ⟨by omega, by omega⟩
                  have hw : w.toNatClampNeg < ar.2.1 := by
                    show w.toInt.toNat < ar.2.1
                    omega
                  rw [hs, hl0] at g3
                  have main : ∀ (el : Nat → Value), zx_RA b ex ρ (zx_as ws) ar.2.1 true [u] el → W p l e R s m args below meth c H locs k.1 k.2 Q (F0 m (pc + 1) ls (el w.toNatClampNeg :: kr)) := by
                    rintro el ⟨sl1, fs1, k1, k2, k3⟩
                    cases k1
                    exact zx_xslot_W hG B1 hz (h7 _ (k2 _ hw)) K
                  rcases g3 with ⟨g3, f, rfl, g4⟩ | ⟨g3, f, rfl, g4⟩
                  · exact ⟨w, a, kr, i0 - 64, t0, cA, ar.1, ar.2.1, rfl, hok, g2, hvp, Or.inl ⟨g3, f, g1, main _ g4⟩⟩
                  · exact ⟨w, a, kr, i0 - 64, t0, cA, ar.1, ar.2.1, rfl, hok, g2, hvp, Or.inr ⟨g3, f, g1, main _ g4⟩⟩
                · cases h6
              · cases h6
            · cases h6
        · cases hz
      · cases hz
  · cases hz
theorem zw_xput_ok {ix : Nat} (hkk : zx_wk1 ad0.2 sk = true) (F : zx_FX p s m args meth c R cc own Ts nw cl A ex nL sts Y aos dt M) (hd : decode cc pc = .ok (.putfield ix, 3)) (hG : zx_ok ρ G) (B : zx_B D cl A b ex ad0 nL s ρ h lv sk H locs ls kc tys ws lc) (hz : zw_xput M pc G h lv k sk ix = some z) (K : zx_KK p l e R s m args below meth c Q D cl A b ex ad0 nL ρ z) : W p l e R s m args below meth c H locs k.1 k.2 Q (F0 m pc ls kc) := by
  obtain ⟨hx, hb, hown, hts, hnw, hA, hR, hin, hnL, hCX, hao, hCK, hMK⟩ := F
  unfold zw_xput at hz
  split at hz
  · rename_i q hq
    split at hz
    · rename_i v ids r
      obtain ⟨x, kr0, rfl, hv, B0⟩ := zx_top1 B
      obtain ⟨x2, kr, rfl, hv2, B1⟩ := zx_top1 B0
      rcases hv2 with ⟨h4, -⟩ | ⟨i0, a, h4, h5, rfl⟩
      · cases h4
      · split at hz
        · rename_i hc
          obtain ⟨c1, c3, c4⟩ := hc
          have c5 := List.all_eq_true.mp c1 i0 h4
          split at c5
          · rename_i t h6
            unfold zw_sl at h6
            simp only [zy_get_eq, zy_set_eq] at h6
            split at h6
            · cases h6
            · rename_i hi
              split at h6
              · rename_i o ho
                split at h6
                · rename_i hoq
                  obtain ⟨en, g1, fs, rfl, g2⟩ := zx_cell B1 hi h5 ho
                  obtain ⟨C, T, N, ty, m1, m2, m3, m4, m5, m6, m7⟩ := hMK.1 ix q hq
                  obtain ⟨u1, ty0, u2, u3, -⟩ := hCK _ _ _ _ m1
                  obtain ⟨n1, n2⟩ := zx_fit_ok (ty := ty) hG (by rw [m5]; exact c3) hv
                  have hl : q.2.1 < fs.length := by rw [← zx_F2_len g2]; exact (List.getElem?_eq_some_iff.mp h6).1
                  have fin : ∀ (H1 : Heap) (locs1 : List Loc), va_P D cl (ws.set (i0 - 64) (a, .inr (o.1, fs.set q.2.1 x))) H1 → va_D A (ws.set (i0 - 64) (a, .inr (o.1, fs.set q.2.1 x))) → va_S A s.heap H1 locs1 → W p l e R s m args below meth c H1 locs1 k.1 k.2 Q (F0 m (pc + 3) ls kr) := by
                    intro H1 locs1 P1 D1 S1
                    have hq2 : zx_RC cl b ex ρ (zx_as ws) tys (.inl o) (.inr (o.1, fs.set q.2.1 x)) := by
                      refine ⟨fs.set q.2.1 x, rfl, ?_⟩
                      have h8 := zx_F2_set (R := zx_RS b ex ρ (zx_as ws)) (a := t) (zw_fits_ok hG c5 hv) q.2.1 g2
                      rwa [zx_set_same h6] at h8
                    have B4 := zx_B_set B1 (zx_wk0_ok hkk h4) g1 hq2 P1 D1 S1
                    rw [zx_set_same ho] at B4
                    exact zx_K1 K (zx_one hz) (zx_J_same hG B4)
                  cases hf : q.2.2.2 with
                  | false => exact va_put (D := D) (C := C) (T := T) (N := N) hx hb hts u1 ty0 u2 u3 hown B1.1 B1.2.1 B1.2.2.1 B1.2.2.2.1.1 (i0 - 64) g1 (by rw [hoq]; exact m1) q.2.1 m2 (hts _ m3) (fun _ h9 => h9) (by rw [m6]; exact hf) m4 n1 n2 hl hd fin
                  | true =>
                    have hB : zx_mB M = true := by
                      rw [hf] at c4
                      simpa using c4
                    have hdecl : (T q.2.1).1 = own := by
                      rcases m7 hf with g | g
                      · exact g
                      · rw [hB] at g; cases g
                    exact va_putF (D := D) (C := C) (T := T) (N := N) hx hb hts u1 ty0 u2 u3 hown B1.1 B1.2.1 B1.2.2.1 B1.2.2.2.1.1 (i0 - 64) g1 (by rw [hoq]; exact m1) q.2.1 m2 (hts _ m3) (fun _ h9 => h9) (by rw [m6]; exact hf) (hin hB) hdecl m4 n1 n2 hl hd fin
                · cases h6
              · cases h6
          · cases c5
        · cases hz
    · cases hz
  · cases hz
theorem zw_xas_ok {by_ : Bool} (hkk : zx_wk2 ad0.2 sk = true) (hG : zx_ok ρ G) (B : zx_B D cl A b ex ad0 nL s ρ h lv sk H locs ls kc tys ws lc) (hz : zw_xas pc G h lv k sk by_ = some z) (K : zx_KK p l e R s m args below meth c Q D cl A b ex ad0 nL ρ z) : ∃ (v w : Int32) (a : Nat) (kr : List Value) (i0 t0 : Nat) (cA : ClassId) (tg n : Nat) (f : Nat → Int32), kc = .int v :: .int w :: .ref a :: kr ∧ (if by_ = true then (tg = 1 ∧ vp_nar .byte v = v) ∨ (tg = 2 ∧ vp_nar .boolean v = v) else tg = 0) ∧ tys[t0]? = some (cA, zx_ty cl tg) ∧ vp_in w n ∧ ws[i0]? = some (a, .inl (cA, n, .inl f)) ∧
    ∀ (H1 : Heap) (locs1 : List Loc), va_P D cl (ws.set i0 (a, .inl (cA, n, .inl (upd f w.toNatClampNeg v)))) H1 → va_D A (ws.set i0 (a, .inl (cA, n, .inl (upd f w.toNatClampNeg v)))) → va_S A s.heap H1 locs1 → W p l e R s m args below meth c H1 locs1 k.1 k.2 Q (F0 m (pc + 1) ls kr) := by
  unfold zw_xas at hz
  split at hz
  · rename_i v1 e1 ids r
    obtain ⟨v, kr1, rfl, hv, B1⟩ := zx_topi B
    obtain ⟨w, kr2, rfl, he, B2⟩ := zx_topi B1
    obtain ⟨x3, kr, rfl, hv3, B3⟩ := zx_top1 B2
    rcases hv3 with ⟨h4, -⟩ | ⟨i0, a, h4, h5, rfl⟩
    · cases h4
    · split at hz
      · rename_i tv te htv hte
        split at hz
        · rename_i hall
          have c5 := List.all_eq_true.mp hall i0 h4
          split at c5
          · rename_i q h6
            have B' : zx_B D cl A b ex ad0 nL s ρ h lv (.inl v1 :: .inl e1 :: .inr (.inl ([i0], false)) :: r) H locs ls (.int v :: .int w :: .ref a :: kr) tys ws lc := zx_B_sk B ⟨⟨v, rfl, hv⟩, ⟨w, rfl, he⟩, Or.inr ⟨i0, a, List.mem_singleton.mpr rfl, h5, rfl⟩, B3.2.2.2.2.2.2.2⟩
            have hz' : zx_xas pc G h lv k (.inl v1 :: .inl e1 :: .inr (.inl ([i0], false)) :: r) by_ = some z := by
              unfold zw_ar at h6
              simp only [zy_get_eq, zy_set_eq] at h6
              split at h6
              · cases h6
              · rename_i hi
                split at h6
                · rename_i ar har
                  split at h6
                  · rename_i hc
                    obtain ⟨c0, c1, c2⟩ := hc
                    rw [Bool.and_eq_true] at c0
                    split at h6
                    · rename_i sl0 hl0
                      cases h6
                      show (if i0 < 64 then none else (match zy_get h (i0 - 64), zx_rng G v1, zx_rng G e1 with
                        | some (.inr (.inl ar)), some tv, some te => if zx_bok by_ ar.1 tv = true then (if ar.2.2.1 = true then (match ar.2.2.2 with
                            | [.inr t] => if 0 ≤ te.1 ∧ te.2 < (ar.2.1 : Int) ∧ zx_in tv t.1 t.2 = true then some [(pc + 1, G, h, lv, r, k)] else none
                            | _ => none) else (match zx_split G e1 with
                            | some l => zx_all (zx_xas1 pc h lv k r i0 ar (.inl v1) e1) l
                            | none => none)) else none
                        | _, _, _ => none)) = some z
                      rw [if_neg hi, zy_get_eq, har, htv, hte]
                      show (if zx_bok by_ ar.1 tv = true then (if ar.2.2.1 = true then (match ar.2.2.2 with
                            | [.inr t] => if 0 ≤ te.1 ∧ te.2 < (ar.2.1 : Int) ∧ zx_in tv t.1 t.2 = true then some [(pc + 1, G, h, lv, r, k)] else none
                            | _ => none) else (match zx_split G e1 with
                            | some l => zx_all (zx_xas1 pc h lv k r i0 ar (.inl v1) e1) l
                            | none => none)) else none) = some z
                      rw [if_pos c0.1, if_pos c0.2, hl0]
                      show (if 0 ≤ te.1 ∧ te.2 < (ar.2.1 : Int) ∧ zx_in tv q.1 q.2 = true then some [(pc + 1, G, h, lv, r, k)] else none) = some z
                      rw [if_pos ⟨c1, c2, c5⟩]
                      exact hz
                    · cases h6
                  · cases h6
                · cases h6
            have hk2 : zx_wk2 ad0.2 (.inl v1 :: .inl e1 :: .inr (.inl ([i0], false)) :: r) = true := by
              show zx_wk0 ad0.2 [i0] = true
              exact List.all_eq_true.mpr fun id hid => List.all_eq_true.mp (show zx_wk0 ad0.2 ids = true from hkk) id (by rw [List.mem_singleton.mp hid]; exact h4)
            exact zx_xas_ok hk2 hG B' hz' K
          · cases c5
        · cases hz
      · cases hz
  · cases hz
theorem zw_xqs_ok (hkk : zx_wk2 ad0.2 sk = true) (F : zx_FX p s m args meth c R cc own Ts nw cl A ex nL sts Y aos dt M) (hd : decode cc pc = .ok (.aastore, 1)) (hG : zx_ok ρ G) (B : zx_B D cl A b ex ad0 nL s ρ h lv sk H locs ls kc tys ws lc) (hz : zw_xqs pc G h lv k sk = some z) (K : zx_KK p l e R s m args below meth c Q D cl A b ex ad0 nL ρ z) : W p l e R s m args below meth c H locs k.1 k.2 Q (F0 m pc ls kc) := by
  obtain ⟨hx, hb, hown, hts, hnw, hA, hR, hin, hnL, hCX, hao, hCK, hMK⟩ := F
  unfold zw_xqs at hz
  simp only [zy_get_eq, zy_set_eq] at hz
  split at hz
  · rename_i vs e1 id r
    obtain ⟨x1, kr1, rfl, hv, B1⟩ := zx_top1 B
    obtain ⟨w, kr2, rfl, he, B2⟩ := zx_topi B1
    obtain ⟨x3, kr, rfl, hv3, B3⟩ := zx_top1 B2
    split at hz
    · rename_i te hte
      obtain ⟨q1, q2⟩ := zx_rng_ok hG hte he
      split at hz
      · cases hz
      · rename_i hi1
        rcases hv3 with ⟨h4, -⟩ | ⟨i0, a, h4, h5, rfl⟩
        · cases h4
        · have hid : i0 = id := List.mem_singleton.mp h4
          subst hid
          rcases id hv with ⟨h6, -⟩ | ⟨i1, av, h6, h7, rfl⟩
          · cases h6
          · split at hz
            · rename_i ar har
              split at hz
              · rename_i hc
                obtain ⟨hs, c1, c2⟩ := hc
                split at hz
                · rename_i t hl0
                  split at hz
                  · rename_i hall
                    have c5 := List.all_eq_true.mp hall i1 h6
                    simp only [Bool.and_eq_true, Bool.not_eq_true'] at c5
                    obtain ⟨c6, c7, c8⟩ := c5
                    have hi2 : ¬ i1 < 64 := by
                      intro hlt
                      rw [← Nat.blt_eq] at hlt
                      rw [hlt] at c7
                      cases c7
                    split at c8
                    · rename_i o ho
                      have c9 := Nat.eq_of_beq_eq_true c8
                      obtain ⟨en, g1, cA, t0, g2, g3⟩ := zx_cell B3 hi1 h5 har
                      obtain ⟨en2, f1, fs, rfl, f2⟩ := zx_cell B3 hi2 h7 ho
                      obtain ⟨rr, hc1, -⟩ := B3.2.1 _ _ f1
                      have hty : zx_ty cl ar.1 = .object rr.1 := by
                        rw [c9, Nat.add_comm 3 o.1]
                        show FieldType.object ((cl[o.1]?.map (fun q => q.1)).getD "") = _
                        rw [hc1]; rfl
                      rcases g3 with ⟨g3, -⟩ | ⟨g3, f, rfl, g4⟩
                      · omega
                      · rw [hs, hl0] at g4
                        have hvp : vp_in w ar.2.1 := vp_in_iff.mpr ⟨by omega, by omega⟩
                        have hq : zx_RC cl b ex ρ (zx_as ws) tys (.inr (.inl ar)) (.inl (cA, ar.2.1, .inr (.inr (.inr (.inr (va_up f w.toNatClampNeg (some av))))))) := by
                          refine ⟨cA, t0, g2, Or.inr ⟨g3, _, rfl, ?_⟩⟩
                          rw [hs, hl0]
                          obtain ⟨sl1, fs1, k1, k2, k3⟩ := g4
                          cases k1
                          refine ⟨_, _, rfl, fun j hj => ?_, fun q hq => nomatch hq⟩
                          by_cases hjw : j = w.toNatClampNeg
                          · have e9 : va_rf (va_up f w.toNatClampNeg (some av) j) = .ref av := by simp [va_up, hjw, va_rf]
                            show zx_RS b ex ρ (zx_as ws) (.inl (.inr (.inl t))) (va_rf (va_up f w.toNatClampNeg (some av) j))
                            rw [e9]
                            exact Or.inr ⟨i1, av, zw_hs_ok c6, h7, rfl⟩
                          · have e9 : va_rf (va_up f w.toNatClampNeg (some av) j) = va_rf (f j) := by simp [va_up, hjw]
                            show zx_RS b ex ρ (zx_as ws) (.inl (.inr (.inl t))) (va_rf (va_up f w.toNatClampNeg (some av) j))
                            rw [e9]
                            exact k2 j hj
                        refine va_astq hx hb B.1 B.2.1 B.2.2.1 B.2.2.2.1.1 (i0 - 64) t0 (i1 - 64) o.1 (r := rr) g1 (by rw [← hty]; exact g2) f1 hc1 hvp hd (fun H1 locs1 P1 D1 S1 => ?_)
                        have B4 := zx_B_set B3 (zx_wk0_ok (ids := [i0]) hkk (List.mem_singleton.mpr rfl)) g1 hq P1 D1 S1
                        rw [zx_set_same har] at B4
                        exact zx_K1 K (zx_one hz) (zx_J_same hG B4)
                    · cases c8
                  · cases hz
                · cases hz
              · cases hz
            · cases hz
    · cases hz
  · cases hz
theorem zx_ff_ok {e : zx_L} {w : Int} (he : zx_ev ρ e = some w) : ∀ {fs : List zx_S}, ∀ q ∈ zx_fs (zx_ff e fs), q ∈ zx_fs fs ∧ ∀ u, zx_ev ρ q.1 = some u → u ≠ w
  | .inl (.inl d) :: .inl v :: r, q, hq => by
    rw [zx_ff] at hq
    have hm : ∀ q ∈ zx_fs r, q ∈ zx_fs (.inl (.inl d) :: .inl v :: r) := fun q h => List.mem_cons_of_mem _ h
    split at hq
    · rename_i hc
      have hc : (zx_isc (zx_sub e d) && !decide ((zx_sub e d).2 = 0)) = true := hc
      simp only [Bool.and_eq_true, Bool.not_eq_true', decide_eq_false_iff_not] at hc
      have hq : q ∈ (d, v) :: zx_fs (zx_ff e r) := hq
      rcases List.mem_cons.mp hq with g | g
      · subst g
        refine ⟨List.mem_cons_self, fun u hu huw => hc.2 ?_⟩
        have h1 := zx_isc_ev hc.1 (zx_sub_ev he hu)
        omega
      · obtain ⟨k1, k2⟩ := zx_ff_ok he q g
        exact ⟨hm q k1, k2⟩
    · obtain ⟨k1, k2⟩ := zx_ff_ok he q hq
      exact ⟨hm q k1, k2⟩
  | [], q, hq => nomatch hq
  | [.inl (.inl e)], q, hq => nomatch hq
  | .inl (.inl e) :: .inr t :: r, q, hq => nomatch hq
  | .inl (.inr (.inl t)) :: r, q, hq => nomatch hq
  | .inl (.inr (.inr t)) :: r, q, hq => nomatch hq
  | .inr t :: r, q, hq => nomatch hq
theorem zx_xasf_ok (hkk : zx_wk2 ad0.2 sk = true) (F : zx_FX p s m args meth c R cc own Ts nw cl A ex nL sts Y aos dt M) (hd : decode cc pc = .ok (.iastore, 1)) (hG : zx_ok ρ G) (B : zx_B D cl A b ex ad0 nL s ρ h lv sk H locs ls kc tys ws lc) (hz : zx_xasf M pc G h lv k sk = some z) (K : zx_KK p l e R s m args below meth c Q D cl A b ex ad0 nL ρ z) : W p l e R s m args below meth c H locs k.1 k.2 Q (F0 m pc ls kc) := by
  unfold zx_xasf at hz
  split at hz
  · cases hz
  split at hz
  case h_2 => cases hz
  rename_i v1 e1 id r
  obtain ⟨v, kr1, rfl, hv, B1⟩ := zx_topi B
  obtain ⟨w, kr2, rfl, he, B2⟩ := zx_topi B1
  obtain ⟨x3, kr, rfl, hv3, B3⟩ := zx_top1 B2
  split at hz
  · cases hz
  rename_i hi
  rcases hv3 with ⟨h4, -⟩ | ⟨i0, a, h4, h5, rfl⟩
  · cases h4
  have hid : i0 = id := List.mem_singleton.mp h4
  subst hid
  split at hz
  case h_2 => cases hz
  rename_i ar tv te har htv hte
  rw [zy_get_eq] at har
  obtain ⟨v2, v3⟩ := zx_rng_ok hG htv hv
  obtain ⟨w2, w3⟩ := zx_rng_ok hG hte he
  split at hz
  case h_2 => cases hz
  rename_i t fs hl
  split at hz
  case isFalse => cases hz
  rename_i hc
  obtain ⟨c0, hs, c1, c2, c3⟩ := hc
  obtain ⟨c4, c5⟩ := zx_in_iff.mp c3
  have hkk : ¬ (i0 - 64) ∈ ad0.2 := zx_wk0_ok (ids := [i0]) hkk (List.mem_singleton.mpr rfl)
  obtain ⟨en, g1, cA, t0, g2, g3⟩ := zx_cell B3 hi h5 har
  rcases g3 with ⟨g3, f, rfl, g4⟩ | ⟨g3, -⟩
  case inr => omega
  rw [hs, hl] at g4
  obtain ⟨t', fs', k1, k2, k3⟩ := g4
  cases k1
  have hvp : vp_in w ar.2.1 := vp_in_iff.mpr ⟨by omega, by omega⟩
  have upe : ∀ (j : Nat), (fun j => Value.int (upd f w.toNatClampNeg v j)) j = if j = w.toNatClampNeg then .int v else .int (f j) := by
    intro j
    by_cases hj : j = w.toNatClampNeg
    · rw [if_pos hj]; simp [upd, hj]
    · rw [if_neg hj]; simp [upd, hj]
  have hq : zx_RC cl b ex ρ (zx_as ws) tys (.inr (.inl (ar.1, ar.2.1, true, .inr t :: .inl (.inl e1) :: .inl (.inl v1) :: zx_ff e1 fs))) (.inl (cA, ar.2.1, .inl (upd f w.toNatClampNeg v))) := by
    refine ⟨cA, t0, g2, Or.inl ⟨g3, _, rfl, .inr t, _, rfl, fun j hj => ?_, fun q hq => ?_⟩⟩
    · rw [upe j]
      split
      · exact ⟨v, rfl, by omega, by omega⟩
      · exact k2 j hj
    · have hq : q ∈ (e1, (.inl v1 : zx_V)) :: zx_fs (zx_ff e1 fs) := hq
      rcases List.mem_cons.mp hq with g | g
      · subst g
        refine ⟨w.toInt, he, by omega, by show w.toInt < (ar.2.1 : Int); omega, ?_⟩
        have h9 : w.toInt.toNat = w.toNatClampNeg := rfl
        rw [h9, upe, if_pos rfl]
        exact ⟨v, rfl, hv⟩
      · obtain ⟨m1, m2⟩ := zx_ff_ok he q g
        obtain ⟨u, j1, j2, j3, j4⟩ := k3 q m1
        have hne := m2 u j1
        refine ⟨u, j1, j2, j3, ?_⟩
        have h9 : w.toNatClampNeg = w.toInt.toNat := rfl
        rw [upe, if_neg (by rw [h9]; omega)]
        exact j4
  have ty0 : zx_ty cl ar.1 = .int := by rw [c0]; rfl
  rw [ty0] at g2
  refine va_iast F.1 F.2.1 B.1 B.2.1 B.2.2.1 B.2.2.2.1.1 (i0 - 64) t0 g1 g2 hvp hd (fun H1 locs1 P1 D1 S1 => ?_)
  have B4 := zx_B_set B3 hkk g1 hq P1 D1 S1
  rw [← zy_set_eq] at B4
  exact zx_K1 K (zx_one hz) (zx_J_same hG B4)
theorem zw_rf_of {v : zx_V} {r : List Nat × Bool} {x : Value} (h : zx_R b ex ρ (zx_as ws) (.inr (.inl r)) x) : ∃ o : Option Nat, x = va_rf o := by
  rcases h with ⟨-, rfl⟩ | ⟨i, a, -, -, rfl⟩
  · exact ⟨none, rfl⟩
  · exact ⟨some a, rfl⟩
theorem zx_xgr_ok {Y : zx_Y} {key : Nat} : ∀ {ids : List Nat} {t : Int × Int}, zx_xgr Y key ids = some t → ∀ i ∈ ids, ∃ row n, (i, row) ∈ Y.1 ∧ 8 ≤ i ∧ row[key]? = some n ∧ t.1 ≤ n ∧ n ≤ t.2
  | [], _, _, i, hi => nomatch hi
  | id :: r, t, h, i, hi => by
    rw [zx_xgr] at h
    split at h
    · rename_i n hn
      have hid : ∃ row, (id, row) ∈ Y.1 ∧ 8 ≤ id ∧ row[key]? = some n := by
        unfold zx_xg1 at hn
        split at hn
        · rename_i h8
          split at hn
          · rename_i row hrow
            exact ⟨row, zx_fd_mem hrow, Nat.le_of_ble_eq_true h8, by rw [← zy_get_eq]; exact hn⟩
          · cases hn
        · cases hn
      obtain ⟨row, m1, m2, m3⟩ := hid
      split at h
      · cases h
        rcases List.mem_cons.mp hi with e | e
        · subst e; exact ⟨row, n, m1, m2, m3, Int.le_refl _, Int.le_refl _⟩
        · cases e
      · split at h
        · rename_i u hu
          cases h
          rcases List.mem_cons.mp hi with e | e
          · subst e
            refine ⟨row, n, m1, m2, m3, ?_, ?_⟩
            · show (if n ≤ u.1 then n else u.1) ≤ n
              split <;> omega
            · show n ≤ (if n ≤ u.2 then u.2 else n)
              split <;> omega
          · obtain ⟨row', n', k1, k2, k3, k4, k5⟩ := zx_xgr_ok hu i e
            refine ⟨row', n', k1, k2, k3, ?_, ?_⟩
            · show (if n ≤ u.1 then n else u.1) ≤ n'
              split <;> omega
            · show n' ≤ (if n ≤ u.2 then u.2 else n)
              split <;> omega
        · cases h
    · cases h
theorem zx_xgx_ok {ix : Nat} (F : zx_FX p s m args meth c R cc own Ts nw cl A ex nL sts Y aos dt M) (hd : decode cc pc = .ok (.getfield ix, 3)) (hG : zx_ok ρ G) (B : zx_B D cl A b ex ad0 nL s ρ h lv sk H locs ls kc tys ws lc) (hz : zx_xgx M Y pc G h lv k sk ix = some z) (K : zx_KK p l e R s m args below meth c Q D cl A b ex ad0 nL ρ z) : W p l e R s m args below meth c H locs k.1 k.2 Q (F0 m pc ls kc) := by
  obtain ⟨hx, hb, hown, hts, hnw, hA, hR, hin, hnL, hCX, hao, hCK, hMK⟩ := F
  unfold zx_xgx at hz
  split at hz
  case h_2 => cases hz
  rename_i fl key kk hkey
  obtain ⟨o, n, d, ref, m1, m2, m3⟩ := hMK.2.2.2.2.2 ix fl key kk hkey
  split at hz
  case h_2 => cases hz
  rename_i ids r
  obtain ⟨x, kr, rfl, hv, B1⟩ := zx_top1 B
  rcases hv with ⟨h4, -⟩ | ⟨i0, a, h4, h5, rfl⟩
  · cases h4
  · split at hz
    case h_2 => cases hz
    rename_i t ht
    obtain ⟨row, w, k1, k2, k3, k4, k5⟩ := zx_xgr_ok ht i0 h4
    obtain ⟨a', a0, a1, a2, a3⟩ := hCX.2 _ k1
    rw [if_neg (by show ¬ i0 < 8; omega)] at a3
    rw [zx_ad, if_pos a0, a1] at h5
    have h5 : a' = a := Option.some.inj h5
    subst h5
    have hF := a3.2 key.toNat o n d m1 w k3
    have hw2 : (Int32.ofInt w).toInt = w := zx_ofI (a2 _ (List.mem_of_getElem? k3)).1 (a2 _ (List.mem_of_getElem? k3)).2
    have hE : va_Ef 1 o n d (fun _ => .int (Int32.ofInt w)) (fun _ => a') A s s.heap := fun _ _ => hF
    refine va_getX (i := 0) hx hb hE (by decide) B.2.2.2.1.1 hown (hts _ m2) (fun x hx9 => m3 s x hx9) hd (zx_go_W B1 hz (fun q hq => ?_) K)
    split at hq
    · rename_i hc
      cases hq
      refine zx_same_ok hG ?_
      rw [hw2]
      exact zx_ev_iff.mpr ⟨0, rfl, by show w = 0 + t.1; omega⟩
    · cases hq
      exact zx_fr_ok hG (by omega) (by omega)
theorem zx_step_ok {i : Instr} {len : Nat} (hkk : zx_wkk ad0.2 i sk = true) (F : zx_FX p s m args meth c R cc own Ts nw cl A ex nL sts Y aos dt M) (hS : zx_SX b xs A s M ρ) (harr : ∀ ty ∈ [FieldType.int, FieldType.byte, FieldType.boolean, FieldType.long], Jvm.Cond.arrayClass ty ∈ Ts) (hd : decode cc pc = .ok (i, len)) (hlen : zx_istab i = true ∨ len = zx_len i) (hG : zx_ok ρ G) (B : zx_B D cl A b ex ad0 nL s ρ h lv sk H locs ls kc tys ws lc) (hz : zx_step M Y dt pc i G h lv k sk = some z) (K : zx_KK p l e R s m args below meth c Q D cl A b ex ad0 nL ρ z) : W p l e R s m args below meth c H locs k.1 k.2 Q (F0 m pc ls kc) := by
  have old : zx_step0 M Y dt pc i G h lv k sk = some z → W p l e R s m args below meth c H locs k.1 k.2 Q (F0 m pc ls kc) := fun h0 => zx_step0_ok hkk F hS harr hd hlen hG B h0 K
  obtain ⟨hx, hb, hown, hts, hnw, hA, hR, hin, hnL, hCX, hao, hCK, hMK⟩ := id F
  unfold zx_step at hz
  split at hz
  · have hl := hlen.resolve_left (fun q => nomatch (show false = true from q))
    subst hl
    rcases zw_or_eq hz with hz | hz
    · exact zw_xget_ok F hd hG B hz K
    · rcases zw_or_eq hz with hz | hz
      · exact old hz
      · exact zx_xgx_ok F hd hG B hz K
  · have hl := hlen.resolve_left (fun q => nomatch (show false = true from q))
    subst hl
    split at hz
    · exact zw_xput_ok hkk F hd hG B hz K
    · exact old hz
  · have hl := hlen.resolve_left (fun q => nomatch (show false = true from q))
    subst hl
    rcases zw_or_eq hz with hz | hz
    · obtain ⟨w, a, kr, i0, t0, cA, tg, n, h1, h2, h3, h4, h5⟩ := zw_xal_ok hG B hz K
      subst h1
      simp only [Bool.or_eq_true, beq_iff_eq] at h2
      rcases h5 with ⟨-, f, h6, h7⟩ | ⟨h5, -⟩
      · rcases h2 with h2 | h2
        · subst h2
          exact va_bald hx hb B.1 B.2.1 i0 t0 h6 h3 h4 hd h7
        · subst h2
          exact va_zald hx hb B.1 B.2.1 i0 t0 h6 h3 h4 hd h7
      · omega
    · exact old hz
  · have hl := hlen.resolve_left (fun q => nomatch (show false = true from q))
    subst hl
    rcases zw_or_eq hz with hz | hz
    · obtain ⟨w, a, kr, i0, t0, cA, tg, n, h1, h2, h3, h4, h5⟩ := zw_xal_ok hG B hz K
      subst h1
      have h2 : 3 ≤ tg := Nat.le_of_ble_eq_true h2
      rcases h5 with ⟨h5, -⟩ | ⟨-, f, h6, h7⟩
      · omega
      · obtain ⟨j, rfl⟩ : ∃ j, tg = j + 3 := ⟨tg - 3, by omega⟩
        exact va_aldq hx hb B.1 B.2.1 i0 t0 h6 h3 h4 hd h7
    · exact old hz
  · have hl := hlen.resolve_left (fun q => nomatch (show false = true from q))
    subst hl
    rcases zw_or_eq hz with hz | hz
    · obtain ⟨w, a, kr, i0, t0, cA, tg, n, h1, h2, h3, h4, h5⟩ := zw_xal_ok hG B hz K
      subst h1
      have h2 : tg = 0 := by simpa using h2
      subst h2
      rcases h5 with ⟨-, f, h6, h7⟩ | ⟨h5, -⟩
      · exact va_iald hx hb B.1 B.2.1 i0 t0 h6 h3 h4 hd h7
      · omega
    · exact old hz
  · have hl := hlen.resolve_left (fun q => nomatch (show false = true from q))
    subst hl
    split at hz
    · obtain ⟨v, w, a, kr, i0, t0, cA, tg, n, f, h1, h2, h3, h4, h5, h6⟩ := zw_xas_ok hkk hG B hz K
      subst h1
      rw [if_neg (by decide)] at h2
      subst h2
      exact va_iast hx hb B.1 B.2.1 B.2.2.1 B.2.2.2.1.1 i0 t0 h5 h3 h4 hd h6
    · rcases zw_or_eq hz with hz | hz
      · exact zx_xasf_ok hkk F hd hG B hz K
      · exact old hz
  · have hl := hlen.resolve_left (fun q => nomatch (show false = true from q))
    subst hl
    split at hz
    · obtain ⟨v, w, a, kr, i0, t0, cA, tg, n, f, h1, h2, h3, h4, h5, h6⟩ := zw_xas_ok hkk hG B hz K
      subst h1
      rw [if_pos rfl] at h2
      rcases h2 with ⟨h2, h7⟩ | ⟨h2, h7⟩
      · subst h2
        exact va_bast hx hb B.1 B.2.1 B.2.2.1 B.2.2.2.1.1 i0 t0 h5 h3 h4 hd (by rw [h7]; exact h6)
      · subst h2
        exact va_zast hx hb B.1 B.2.1 B.2.2.1 B.2.2.2.1.1 i0 t0 h5 h3 h4 hd (by rw [h7]; exact h6)
    · exact old hz
  · have hl := hlen.resolve_left (fun q => nomatch (show false = true from q))
    subst hl
    rcases zw_or_eq hz with hz | hz
    · exact zw_xqs_ok hkk F hd hG B hz K
    · exact old hz
  · rename_i cn off
    have hl := hlen.resolve_left (fun q => nomatch (show false = true from q))
    subst hl
    unfold zw_xacmp at hz
    split at hz
    · rename_i r1 r2 r
      obtain ⟨y, kr1, rfl, hy, B1⟩ := zx_top1 B
      obtain ⟨x, kr, rfl, hx', B2⟩ := zx_top1 B1
      obtain ⟨ry, rfl⟩ := zw_rf_of (v := .inr (.inl r1)) hy
      obtain ⟨rx, rfl⟩ := zw_rf_of (v := .inr (.inl r2)) hx'
      split at hz
      · rename_i t ht
        cases hz
        have ht := zx_tg_ok ht
        have k1 := zx_K1 K List.mem_cons_self (zx_J_same hG B2)
        have k2 := zx_K1 K (List.mem_cons_of_mem _ List.mem_cons_self) (zx_J_same hG B2)
        cases cn
        · exact lv_acmp_eq hx hb hd ht (fun _ => k1) (fun _ => k2)
        · exact lv_acmp_ne hx hb hd ht (fun _ => k1) (fun _ => k2)
      · cases hz
    · cases hz
  · have hl := hlen.resolve_left (fun q => nomatch (show false = true from q))
    subst hl
    unfold zw_xneg at hz
    split at hz
    · rename_i x r
      obtain ⟨w, kr, rfl, he, B1⟩ := zx_topi B
      refine lv_ineg hx hb hd (zx_go_W B1 hz (fun q hq => ?_) K)
      refine zx_val_ok hG hq (zx_scale_ev (-1) he) (fun g1 g2 => ?_)
      rw [Int32.toInt_neg]
      have h9 : (-1 : Int) * w.toInt = -w.toInt := by omega
      rw [h9] at g1 g2 ⊢
      exact zx_bm g1 g2
    · cases hz
  · exact old hz
end ZWO
end
