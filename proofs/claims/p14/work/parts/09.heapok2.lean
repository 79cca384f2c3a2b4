noncomputable section
/-! zx: rows written, lengths, new things, statics, the script -/
theorem zx_nar01 {w : Int32} (h1 : 0 ≤ w.toInt) (h2 : w.toInt ≤ 1) : vp_nar .boolean w = w := by
  rcases zx_01 h1 h2 with rfl | rfl <;> rfl
theorem zx_nar8 {w : Int32} (h1 : -128 ≤ w.toInt) (h2 : w.toInt ≤ 127) : vp_nar .byte w = w := by
  rw [vp_nar_byte]
  refine Int32.toInt_inj.mp ?_
  rw [Int8.toInt_toInt32, Int32.toInt_toInt8]
  exact Int.bmod_eq_of_le (by omega) (by omega)
theorem zx_RA_put {b : Nat} {ex : List Nat} {ρ : List Int} {ad : List Nat} {n : Nat} {l : List zx_S} {el : Nat → Value} {v : zx_V} {x : Value} {j : Nat} (h : zx_RA b ex ρ ad n false l el) (hv : zx_R b ex ρ ad v x) : zx_RA b ex ρ ad n false (l.set j (.inl v)) (fun i => if i = j then x else el i) := by
  refine ⟨by rw [List.length_set]; exact h.1, fun i t ht => ?_⟩
  rw [List.getElem?_set] at ht
  show zx_RS b ex ρ ad t (if i = j then x else el i)
  by_cases hj : j = i
  · subst hj
    rw [if_pos rfl] at ht ⊢
    split at ht
    · cases ht; exact hv
    · cases ht
  · rw [if_neg hj] at ht
    rw [if_neg (fun q => hj q.symm)]
    exact h.2 i t ht
theorem zx_RA_eq {b : Nat} {ex : List Nat} {ρ : List Int} {ad : List Nat} {n : Nat} {sm : Bool} {l : List zx_S} {el el' : Nat → Value} (h : zx_RA b ex ρ ad n sm l el) (he : ∀ i, el i = el' i) : zx_RA b ex ρ ad n sm l el' := by
  have : el = el' := funext he
  rw [← this]; exact h
section ZXI
variable {p : Program} {l : Launch} {e : Env} {R : Room} {s : State} {m : MethodId} {args : Array Value} {below : List Frame} {meth : Method} {c : Code} {Q : State → Prop}
variable {D : va_G} {cl : List vw_C} {A : Nat → Prop} {b : Nat} {ex : List Nat} {ad0 : zx_A0} {nL : Nat} {ρ : List Int} {G : zx_G} {h : List zx_C} {lv : List (Nat × zx_V)} {k : Nat × Nat} {sk : List zx_V} {H : Heap} {locs : List Loc} {ls : Array Slot} {kc : List Value} {tys : List (ClassId × FieldType)} {ws : va_W} {lc : List (Nat × Value)}
variable {cc : ByteArray} {pc : Nat} {M : zx_M} {z : List (Nat × zx_T)} {own : String} {Ts nw : List Jvm.Cond} {sts : List (String × String × String × Nat)} {Y : zx_Y} {aos : List String} {dt : List (List Nat)} {xs : Nat → Int32}
/-- what the writing of a place leaves -/
theorem zx_xas1_W {id a : Nat} {ar : Nat × Nat × Bool × List zx_S} {v : zx_V} {e1 : zx_L} {G1 : zx_G} {w : Int32} (hG : zx_ok ρ G1) (B : zx_B D cl A b ex ad0 nL s ρ h lv sk H locs ls kc tys ws lc) (he : zx_ev ρ e1 = some w.toInt) (hkk : ¬ (id - 64) ∈ ad0.2) (hz : zx_xas1 pc h lv k sk id ar v e1 G1 = some z) (K : zx_KK p l e R s m args below meth c Q D cl A b ex ad0 nL ρ z) {en en' : va_E} (hw : ws[id - 64]? = some (a, en)) (hq : zx_RC cl b ex ρ (zx_as ws) tys (.inr (.inl (ar.1, ar.2.1, false, ar.2.2.2.set w.toNatClampNeg (.inl v)))) en') : vp_in w ar.2.1 ∧ ∀ (H1 : Heap) (locs1 : List Loc), va_P D cl (ws.set (id - 64) (a, en')) H1 → va_D A (ws.set (id - 64) (a, en')) → va_S A s.heap H1 locs1 → W p l e R s m args below meth c H1 locs1 k.1 k.2 Q (F0 m (pc + 1) ls kc) := by
  unfold zx_xas1 at hz
  simp only [zy_get_eq, zy_set_eq] at hz
  split at hz
  · cases hz
  · rename_i t ht
    obtain ⟨q1, q2⟩ := zx_rng_ok hG ht he
    split at hz
    · rename_i hc
      obtain ⟨c1, c2, c3⟩ := hc
      refine ⟨vp_in_iff.mpr ⟨by omega, by omega⟩, fun H1 locs1 P1 D1 S1 => ?_⟩
      have h3 : w.toNatClampNeg = t.1.toNat := zx_cl (by omega)
      rw [h3] at hq
      exact zx_K1 K (zx_one hz) (zx_J_same hG (zx_B_set B hkk hw hq P1 D1 S1))
    · cases hz
theorem zx_xas_ok {by_ : Bool} (hkk : zx_wk2 ad0.2 sk = true) (hG : zx_ok ρ G) (B : zx_B D cl A b ex ad0 nL s ρ h lv sk H locs ls kc tys ws lc) (hz : zx_xas pc G h lv k sk by_ = some z) (K : zx_KK p l e R s m args below meth c Q D cl A b ex ad0 nL ρ z) : ∃ (v w : Int32) (a : Nat) (kr : List Value) (i0 t0 : Nat) (cA : ClassId) (tg n : Nat) (f : Nat → Int32), kc = .int v :: .int w :: .ref a :: kr ∧ (if by_ = true then (tg = 1 ∧ vp_nar .byte v = v) ∨ (tg = 2 ∧ vp_nar .boolean v = v) else tg = 0) ∧ tys[t0]? = some (cA, zx_ty cl tg) ∧ vp_in w n ∧ ws[i0]? = some (a, .inl (cA, n, .inl f)) ∧
    ∀ (H1 : Heap) (locs1 : List Loc), va_P D cl (ws.set i0 (a, .inl (cA, n, .inl (upd f w.toNatClampNeg v)))) H1 → va_D A (ws.set i0 (a, .inl (cA, n, .inl (upd f w.toNatClampNeg v)))) → va_S A s.heap H1 locs1 → W p l e R s m args below meth c H1 locs1 k.1 k.2 Q (F0 m (pc + 1) ls kr) := by
  unfold zx_xas at hz
  simp only [zy_get_eq, zy_set_eq] at hz
  split at hz
  · rename_i v1 e1 id r
    obtain ⟨v, kr1, rfl, hv, B1⟩ := zx_topi B
    obtain ⟨w, kr2, rfl, he, B2⟩ := zx_topi B1
    obtain ⟨x3, kr, rfl, hv3, B3⟩ := zx_top1 B2
    split at hz
    · cases hz
    · rename_i hi
      rcases hv3 with ⟨h4, -⟩ | ⟨i0, a, h4, h5, rfl⟩
      · cases h4
      · have hid : i0 = id := List.mem_singleton.mp h4
        subst hid
        split at hz
        · rename_i ar tv te har htv hte
          have hkk : ¬ (i0 - 64) ∈ ad0.2 := zx_wk0_ok (ids := [i0]) hkk (List.mem_singleton.mpr rfl)
          obtain ⟨v2, v3⟩ := zx_rng_ok hG htv hv
          obtain ⟨w2, w3⟩ := zx_rng_ok hG hte he
          split at hz
          · rename_i htg
            obtain ⟨en, g1, cA, t0, g2, g3⟩ := zx_cell B3 hi h5 har
            have htg2 : if by_ = true then (ar.1 = 1 ∧ vp_nar .byte v = v) ∨ (ar.1 = 2 ∧ vp_nar .boolean v = v) else ar.1 = 0 := by
              cases by_ with
              | true =>
                rw [if_pos rfl]
                simp only [zx_bok, Bool.or_eq_true, Bool.and_eq_true, beq_iff_eq] at htg
                rcases htg with ⟨q1, q2⟩ | ⟨q1, q2⟩
                · obtain ⟨q3, q4⟩ := zx_in_iff.mp q2
                  exact Or.inl ⟨q1, zx_nar8 (by omega) (by omega)⟩
                · obtain ⟨q3, q4⟩ := zx_in_iff.mp q2
                  exact Or.inr ⟨q1, zx_nar01 (by omega) (by omega)⟩
              | false =>
                simp only [zx_bok, beq_iff_eq] at htg
                rw [if_neg (by decide)]; exact htg
            have hlt : ar.1 < 3 := by
              cases by_ with
              | true =>
                rw [if_pos rfl] at htg2
                rcases htg2 with q | q
                · rw [q.1]; decide
                · rw [q.1]; decide
              | false => rw [if_neg (by decide)] at htg2; rw [htg2]; decide
            rcases g3 with ⟨g3, f, rfl, g4⟩ | ⟨g3, f, rfl, g4⟩
            · have upe : ∀ (j : Nat), (fun j => Value.int (upd f w.toNatClampNeg v j)) j = if j = w.toNatClampNeg then .int v else .int (f j) := by
                intro j
                by_cases hj : j = w.toNatClampNeg
                · rw [if_pos hj]; simp [upd, hj]
                · rw [if_neg hj]; simp [upd, hj]
              split at hz
              · rename_i hs
                rw [hs] at g4
                split at hz
                · rename_i t hl
                  split at hz
                  · rename_i hc
                    obtain ⟨c1, c2, c3⟩ := hc
                    obtain ⟨c4, c5⟩ := zx_in_iff.mp c3
                    refine ⟨v, w, a, kr, i0 - 64, t0, cA, ar.1, ar.2.1, f, rfl, htg2, g2, vp_in_iff.mpr ⟨by omega, by omega⟩, g1, fun H1 locs1 P1 D1 S1 => ?_⟩
                    have B4 := zx_B_set B3 hkk g1 (q := .inr (.inl ar)) (en := .inl (cA, ar.2.1, .inl (upd f w.toNatClampNeg v))) ?_ P1 D1 S1
                    · rw [zx_set_same har] at B4
                      exact zx_K1 K (zx_one hz) (zx_J_same hG B4)
                    · refine ⟨cA, t0, g2, Or.inl ⟨g3, _, rfl, ?_⟩⟩
                      rw [hs]
                      obtain ⟨sl, fs, k1, k2, k3⟩ := g4
                      rw [hl] at k1
                      have k1 : (.inr t : zx_S) = sl := by cases k1; rfl
                      subst k1
                      refine ⟨.inr t, [], hl, fun j hj => ?_, fun q hq => nomatch hq⟩
                      rw [upe j]
                      split
                      · exact ⟨v, rfl, by omega, by omega⟩
                      · exact k2 j hj
                  · cases hz
                · cases hz
              · rename_i hs
                have hs : ar.2.2.1 = false := by simpa using hs
                rw [hs] at g4
                split at hz
                · rename_i gs hgs
                  obtain ⟨G', k1, k2⟩ := zx_split_ok hG he hgs
                  obtain ⟨y2, k3, k4⟩ := zx_all_ok hz k1
                  have hq : zx_RC cl b ex ρ (zx_as ws) tys (.inr (.inl (ar.1, ar.2.1, false, ar.2.2.2.set w.toNatClampNeg (.inl (.inl v1))))) (.inl (cA, ar.2.1, .inl (upd f w.toNatClampNeg v))) :=
                    ⟨cA, t0, g2, Or.inl ⟨g3, _, rfl, zx_RA_eq (zx_RA_put (j := w.toNatClampNeg) (v := .inl v1) (x := .int v) g4 ⟨v, rfl, hv⟩) (fun j => (upe j).symm)⟩⟩
                  obtain ⟨r1, r2⟩ := zx_xas1_W k2 B3 he hkk k3 (fun q hq => K q (k4 q hq)) g1 hq
                  exact ⟨v, w, a, kr, i0 - 64, t0, cA, ar.1, ar.2.1, f, rfl, htg2, g2, r1, g1, r2⟩
                · cases hz
            · omega
          · cases hz
        · cases hz
  · cases hz
theorem zx_xqs_ok (hkk : zx_wk2 ad0.2 sk = true) (F : zx_FX p s m args meth c R cc own Ts nw cl A ex nL sts Y aos dt M) (hd : decode cc pc = .ok (.aastore, 1)) (hG : zx_ok ρ G) (B : zx_B D cl A b ex ad0 nL s ρ h lv sk H locs ls kc tys ws lc) (hz : zx_xqs pc G h lv k sk = some z) (K : zx_KK p l e R s m args below meth c Q D cl A b ex ad0 nL ρ z) : W p l e R s m args below meth c H locs k.1 k.2 Q (F0 m pc ls kc) := by
  obtain ⟨hx, hb, hown, hts, hnw, hA, hR, hin, hnL, hCX, hao, hCK, hMK⟩ := F
  unfold zx_xqs at hz
  simp only [zy_get_eq, zy_set_eq] at hz
  split at hz
  · rename_i iv e1 id r
    obtain ⟨x1, kr1, rfl, hv, B1⟩ := zx_top1 B
    obtain ⟨w, kr2, rfl, he, B2⟩ := zx_topi B1
    obtain ⟨x3, kr, rfl, hv3, B3⟩ := zx_top1 B2
    split at hz
    · cases hz
    · rename_i hi
      have hi1 : ¬ id < 64 := fun q => hi (Or.inl q)
      have hi2 : ¬ iv < 64 := fun q => hi (Or.inr q)
      rcases hv3 with ⟨h4, -⟩ | ⟨i0, a, h4, h5, rfl⟩
      · cases h4
      · have hid : i0 = id := List.mem_singleton.mp h4
        subst hid
        rcases id hv with ⟨h6, -⟩ | ⟨i1, av, h6, h7, rfl⟩
        · cases h6
        · have hid : i1 = iv := List.mem_singleton.mp h6
          subst hid
          split at hz
          · rename_i ar o har ho
            split at hz
            · rename_i hc
              obtain ⟨c1, hs⟩ := hc
              have hkk : ¬ (i0 - 64) ∈ ad0.2 := zx_wk0_ok (ids := [i0]) hkk (List.mem_singleton.mpr rfl)
              obtain ⟨en, g1, cA, t0, g2, g3⟩ := zx_cell B3 hi1 h5 har
              obtain ⟨en2, f1, fs, rfl, f2⟩ := zx_cell B3 hi2 h7 ho
              obtain ⟨rr, hc1, -⟩ := B3.2.1 _ _ f1
              have hty : zx_ty cl ar.1 = .object rr.1 := by
                rw [c1, Nat.add_comm 3 o.1]
                show FieldType.object ((cl[o.1]?.map (fun q => q.1)).getD "") = _
                rw [hc1]; rfl
              rcases g3 with ⟨g3, -⟩ | ⟨g3, f, rfl, g4⟩
              · omega
              · split at hz
                · rename_i gs hgs
                  obtain ⟨G', k1, k2⟩ := zx_split_ok hG he hgs
                  obtain ⟨y2, k3, k4⟩ := zx_all_ok hz k1
                  rw [hs] at g4
                  have upe : ∀ (j : Nat), (fun j => va_rf (va_up f w.toNatClampNeg (some av) j)) j = if j = w.toNatClampNeg then .ref av else va_rf (f j) := by
                    intro j
                    by_cases hj : j = w.toNatClampNeg
                    · rw [if_pos hj]; simp [va_up, hj, va_rf]
                    · rw [if_neg hj]; simp [va_up, hj]
                  have hq : zx_RC cl b ex ρ (zx_as ws) tys (.inr (.inl (ar.1, ar.2.1, false, ar.2.2.2.set w.toNatClampNeg (.inl (.inr (.inl ([i1], false))))))) (.inl (cA, ar.2.1, .inr (.inr (.inr (.inr (va_up f w.toNatClampNeg (some av))))))) :=
                    ⟨cA, t0, g2, Or.inr ⟨g3, _, rfl, zx_RA_eq (zx_RA_put (j := w.toNatClampNeg) (v := .inr (.inl ([i1], false))) (x := .ref av) g4 hv) (fun j => (upe j).symm)⟩⟩
                  obtain ⟨r1, r2⟩ := zx_xas1_W k2 B3 he hkk k3 (fun q hq => K q (k4 q hq)) g1 hq
                  exact va_astq hx hb B.1 B.2.1 B.2.2.1 B.2.2.2.1.1 (i0 - 64) t0 (i1 - 64) o.1 (r := rr) g1 (by rw [← hty]; exact g2) f1 hc1 r1 hd r2
                · cases hz
            · cases hz
          · cases hz
  · cases hz
theorem zx_xlen_ok (F : zx_FX p s m args meth c R cc own Ts nw cl A ex nL sts Y aos dt M) (hd : decode cc pc = .ok (.arraylength, 1)) (hG : zx_ok ρ G) (B : zx_B D cl A b ex ad0 nL s ρ h lv sk H locs ls kc tys ws lc) (hz : zx_xlen pc G h lv k sk = some z) (K : zx_KK p l e R s m args below meth c Q D cl A b ex ad0 nL ρ z) : W p l e R s m args below meth c H locs k.1 k.2 Q (F0 m pc ls kc) := by
  obtain ⟨hx, hb, hown, hts, hnw, hA, hR, hin, hnL, hCX, hao, hCK, hMK⟩ := F
  unfold zx_xlen at hz
  split at hz
  · rename_i ids r
    obtain ⟨x, kr, rfl, hv, B1⟩ := zx_top1 B
    rcases hv with ⟨h4, -⟩ | ⟨i0, a, h4, h5, rfl⟩
    · cases h4
    · obtain ⟨y, h6, h7⟩ := zx_all_ok hz h4
      have K' : zx_KK p l e R s m args below meth c Q D cl A b ex ad0 nL ρ y := fun q hq => K q (h7 q hq)
      unfold zx_xlen1 at h6
      simp only [zy_get_eq, zy_set_eq] at h6
      split at h6
      · cases h6
      · rename_i hi
        split at h6
        · rename_i ar har
          split at h6
          · rename_i hn
            obtain ⟨en, g1, cA, t0, g2, g3⟩ := zx_cell B1 hi h5 har
            have hv : ∀ w : Int32, Int32.ofNat ar.2.1 = w → zx_R b ex ρ (zx_as ws) (.inl ([], (ar.2.1 : Int))) (.int w) := by
              intro w hw
              refine ⟨w, rfl, ?_⟩
              rw [← hw, Int32.toInt_ofNat_of_lt hn]
              exact zx_ev_iff.mpr ⟨0, rfl, by simp⟩
            rcases g3 with ⟨g3, f, rfl, g4⟩ | ⟨g3, f, rfl, g4⟩
            · exact va_alen hx hb B1.1 B1.2.1 (i0 - 64) t0 (x := (ar.2.1, .inl f)) g1 g2 rfl hd (zx_push_W hG B1 h6 (hv _ rfl) K')
            · exact va_alen hx hb B1.1 B1.2.1 (i0 - 64) t0 (x := (ar.2.1, .inr (.inr (.inr (.inr f))))) g1 g2 rfl hd (zx_push_W hG B1 h6 (hv _ rfl) K')
          · cases h6
        · cases h6
  · cases hz
/-- one cell more -/
theorem zx_J_new {q : zx_C} {a : Nat} {en : va_E} {ty : List (ClassId × FieldType)} {kr : List Value} {sr : List zx_V} {H1 : Heap} {locs1 : List Loc} (hG : zx_ok ρ G) (B : zx_B D cl A b ex ad0 nL s ρ h lv sr H locs ls kr tys ws lc) (K1 : va_K D cl (tys ++ ty) s) (P1 : va_P D cl (ws ++ [(a, en)]) H1) (D1 : va_D A (ws ++ [(a, en)])) (S1 : va_S A s.heap H1 locs1) (hq : zx_RC cl b ex ρ (zx_as ws) (tys ++ ty) q en) : zx_J D cl A b ex ad0 nL s (ρ ++ []) G (h ++ [q]) lv (.inr (.inl ([64 + h.length], false)) :: sr) H1 locs1 ls (.ref a :: kr) := by
  obtain ⟨h1, h2, h3, h4, h5, h6, h7, h8⟩ := B
  rw [List.append_nil]
  have has : zx_as (ws ++ [(a, en)]) = zx_as ws ++ [a] := by unfold zx_as; rw [List.map_append]; rfl
  have hup : ∀ (c : zx_C) (q : Nat × va_E), zx_RC cl b ex ρ (zx_as ws) tys c q.2 → zx_RC cl b ex ρ (zx_as ws ++ [a]) (tys ++ ty) c q.2 := by
    intro c q hc
    have := zx_RC_app (r := []) (q := [a]) (ty := ty) hc
    rwa [List.append_nil] at this
  have hupv : ∀ (v : zx_V) (x : Value), zx_R b ex ρ (zx_as ws) v x → zx_R b ex ρ (zx_as ws ++ [a]) v x := by
    intro v x hv
    have := zx_R_app (r := []) (q := [a]) hv
    rwa [List.append_nil] at this
  refine ⟨hG, tys ++ ty, ws ++ [(a, en)], lc, K1, P1, D1, ⟨S1, by obtain ⟨xt, hxt⟩ := h4.2.1; exact ⟨xt ++ [a], by rw [has, hxt, List.append_assoc]⟩, fun i hi q hq => by
      have h9 := h4.2.2 i hi q hq
      rw [List.getElem?_append_left (List.getElem?_eq_some_iff.mp h9).1]; exact h9⟩, ?_, ?_, h7, ?_⟩
  · rw [has]
    refine zx_F2_app (l' := [q]) (m' := [(a, en)]) ⟨?_, trivial⟩ (zx_F2_imp hup h5)
    have := zx_RC_app (r := []) (q := [a]) (ty := []) hq
    rwa [List.append_nil, List.append_nil] at this
  · rw [has]
    exact zx_F2_imp (fun _ _ q => ⟨q.1, hupv _ _ q.2⟩) h6
  · rw [has]
    refine ⟨Or.inr ⟨64 + h.length, a, List.mem_singleton.mpr rfl, ?_, rfl⟩, zx_F2_imp hupv h8⟩
    rw [zx_ad, if_neg (by omega), show 64 + h.length - 64 = (zx_as ws).length by rw [zx_F2_len h5]; unfold zx_as; rw [List.length_map]; omega]
    simp
theorem zx_dvs {ad : List Nat} : ∀ d : List Nat, zx_F2 (zx_RS b ex ρ ad) (d.map zx_dv) (d.map zx_dV)
  | [] => trivial
  | t :: r => ⟨zx_dv_ok t, zx_dvs r⟩
theorem zx_xnew_ok {ix : Nat} (F : zx_FX p s m args meth c R cc own Ts nw cl A ex nL sts Y aos dt M) (hd : decode cc pc = .ok (.new ix, 3)) (hG : zx_ok ρ G) (B : zx_B D cl A b ex ad0 nL s ρ h lv sk H locs ls kc tys ws lc) (hz : zx_xnew M pc G h lv k sk ix dt = some z) (K : zx_KK p l e R s m args below meth c Q D cl A b ex ad0 nL ρ z) : W p l e R s m args below meth c H locs k.1 k.2 Q (F0 m pc ls kc) := by
  obtain ⟨hx, hb, hown, hts, hnw, hA, hR, hin, hnL, hCX, hao, hCK, hMK⟩ := F
  unfold zx_xnew at hz
  split at hz
  · rename_i ci hci
    split at hz
    · rename_i d hdt
      split at hz
      · rename_i hc
        obtain ⟨hix, hc⟩ := hc
        obtain ⟨C, T, N, m1, m9, -⟩ := hMK.2.2.1 ix ci hci
        obtain ⟨m2, m3, m4⟩ := m9 hix
        obtain ⟨u1, ty0, u2, u3, u4⟩ := hCK _ _ _ _ m1
        obtain ⟨u5, u6⟩ := u4 d hdt
        rw [← hR.1, ← hR.2, u5] at hc
        refine va_new (C := C) (T := T) (N := N) (ci := ci) (fs := d.map zx_dV) hx hb hts u1 ty0 u2 hown (hts _ m2) (hts _ m3) (hts _ m4) B.1 B.2.1 B.2.2.1 B.2.2.2.1.1 hA m1 (fun j hj => ?_) hc.1 hc.2 hd (fun a H1 P1 D1 S1 => ?_)
        · obtain ⟨q1, q2⟩ := u6 j hj
          rw [zx_dV_ty q2, vp_V, List.getD_eq_getElem?_getD, List.getElem?_map, q1]
          rfl
        · have J := zx_J_new (q := .inl (ci, d.map zx_dv)) (ty := []) hG B (by rw [List.append_nil]; exact B.1) P1 D1 S1 ⟨d.map zx_dV, rfl, ?_⟩
          · have hz2 := zx_one hz
            rw [u5] at hz2
            exact zx_K1 K hz2 J
          · exact zx_dvs d
      · cases hz
    · cases hz
  · cases hz
theorem zx_cN {x : Int32} {n : Int} (h : x.toInt = n) (h0 : 0 ≤ n) : ¬ x < 0 ∧ x.toNatClampNeg = n.toNat := by
  refine ⟨fun q => ?_, zx_cl h⟩
  have := Int32.lt_iff_toInt_lt.mp q
  rw [h] at this
  have h9 : (0 : Int32).toInt = 0 := rfl
  omega
theorem zx_RA_rep {n : Nat} {ad : List Nat} {t : zx_S} {x : Value} (h : zx_RS b ex ρ ad t x) : zx_RA b ex ρ ad n false (List.replicate n t) (fun _ => x) := by
  refine ⟨List.length_replicate, fun j t' ht => ?_⟩
  have := List.mem_of_getElem? ht
  rw [(List.mem_replicate.mp this).2]; exact h
theorem zx_xna_ok {at_ : ArrayType} (F : zx_FX p s m args meth c R cc own Ts nw cl A ex nL sts Y aos dt M) (harr : ∀ ty : FieldType, newarray.typeOf at_ = ty → Jvm.Cond.arrayClass ty ∈ Ts) (hd : decode cc pc = .ok (.newarray at_, 2)) (hG : zx_ok ρ G) (B : zx_B D cl A b ex ad0 nL s ρ h lv sk H locs ls kc tys ws lc) (hz : zx_xna M pc G h lv k sk at_ = some z) (K : zx_KK p l e R s m args below meth c Q D cl A b ex ad0 nL ρ z) : W p l e R s m args below meth c H locs k.1 k.2 Q (F0 m pc ls kc) := by
  obtain ⟨hx, hb, hown, hts, hnw, hA, hR, hin, hnL, hCX, hao, hCK, hMK⟩ := F
  unfold zx_xna at hz
  split at hz
  · rename_i e1 r
    obtain ⟨w, kr, rfl, he, B1⟩ := zx_topi B
    split at hz
    · rename_i hc
      obtain ⟨c1, c2, c3, c4, c5⟩ := hc
      have hw := zx_isc_ev c1 he
      obtain ⟨n1, n2⟩ := zx_cN hw c2
      rw [← hR.1] at c4
      rw [← hR.2] at c5
      have hsz : ∀ q : Nat, q ≤ 8 → e1.2.toNat * q ≤ 536870912 := by
        intro q hq
        have h9 : e1.2.toNat ≤ 1000000 := by omega
        calc e1.2.toNat * q ≤ 1000000 * 8 := Nat.mul_le_mul h9 hq
          _ ≤ 536870912 := by decide
      split at hz
      · rename_i h3
        have hat : at_ = .long := by cases at_ <;> first | rfl | exact absurd h3 (by decide)
        subst hat
        refine va_newa (ty := .long) (a0 := (e1.2.toNat, .inr (.inl (fun _ => 0)))) hx hb (hts _ (harr _ rfl)) rfl B.1 B.2.1 B.2.2.1 B.2.2.2.1.1 hA (fun _ => rfl) n1 n2 (hsz 8 (by decide)) c4 c5 hd (fun a cA H1 K1 P1 D1 S1 => ?_)
        exact zx_K1 K (zx_one hz) (zx_J_new (q := .inr (.inr e1.2.toNat)) hG B1 K1 P1 D1 S1 ⟨cA, tys.length, fun _ => 0, by simp, rfl⟩)
      · split at hz
        · rename_i h4
          have hty : newarray.typeOf at_ = zx_ty cl (zx_at at_) ∧ (∀ cA : ClassId, vp_cell cA (e1.2.toNat, .inl (fun _ => 0)) = arrV cA e1.2.toNat (fun _ => defaultValue (zx_ty cl (zx_at at_)))) ∧ componentBytes (zx_ty cl (zx_at at_)) ≤ 8 := by
            cases at_ <;> first | exact ⟨rfl, fun _ => rfl, Nat.le_of_ble_eq_true rfl⟩ | exact absurd h4 (by decide)
          have go : ∀ (q : zx_C), (∀ (cA : ClassId) (t0 : Nat) (tyy : List (ClassId × FieldType)), tyy[t0]? = some (cA, zx_ty cl (zx_at at_)) → zx_RC cl b ex ρ (zx_as ws) tyy q (.inl (cA, e1.2.toNat, .inl (fun _ => 0)))) → some [(pc + 2, G, h ++ [q], lv, .inr (.inl ([64 + h.length], false)) :: r, (k.1 + 1, k.2 + e1.2.toNat))] = some z → W p l e R s m args below meth c H locs k.1 k.2 Q (F0 m pc ls (.int w :: kr)) := by
            intro q hq hz
            refine va_newa (ty := zx_ty cl (zx_at at_)) (a0 := (e1.2.toNat, .inl (fun _ => 0))) hx hb (hts _ (harr _ rfl)) hty.1 B.1 B.2.1 B.2.2.1 B.2.2.2.1.1 hA hty.2.1 n1 n2 (hsz _ hty.2.2) c4 c5 hd (fun a cA H1 K1 P1 D1 S1 => ?_)
            exact zx_K1 K (zx_one hz) (zx_J_new (q := q) hG B1 K1 P1 D1 S1 (hq cA tys.length _ (by simp)))
          split at hz
          · rename_i lo hi hn
            split at hz
            · rename_i hlh
              refine go (.inr (.inl (zx_at at_, e1.2.toNat, true, [.inr (lo, hi)]))) (fun cA t0 tyy ht => ⟨cA, t0, ht, Or.inl ⟨h4, _, rfl, ⟨.inr (lo, hi), [], rfl, fun j hj => ⟨0, rfl, hlh.1, hlh.2⟩, fun q hq => nomatch hq⟩⟩⟩) hz
            · cases hz
          · exact go (.inr (.inl (zx_at at_, e1.2.toNat, false, List.replicate e1.2.toNat (.inl (.inl ([], 0)))))) (fun cA t0 tyy ht => ⟨cA, t0, ht, Or.inl ⟨h4, _, rfl, zx_RA_rep (t := .inl (.inl ([], 0))) (x := .int 0) ⟨0, rfl, rfl⟩⟩⟩) hz
          · cases hz
        · cases hz
    · cases hz
  · cases hz
theorem zx_xnq_ok {ix : Nat} (F : zx_FX p s m args meth c R cc own Ts nw cl A ex nL sts Y aos dt M) (hd : decode cc pc = .ok (.anewarray ix, 3)) (hG : zx_ok ρ G) (B : zx_B D cl A b ex ad0 nL s ρ h lv sk H locs ls kc tys ws lc) (hz : zx_xnq M pc G h lv k sk ix = some z) (K : zx_KK p l e R s m args below meth c Q D cl A b ex ad0 nL ρ z) : W p l e R s m args below meth c H locs k.1 k.2 Q (F0 m pc ls kc) := by
  obtain ⟨hx, hb, hown, hts, hnw, hA, hR, hin, hnL, hCX, hao, hCK, hMK⟩ := F
  unfold zx_xnq at hz
  split at hz
  · rename_i e1 r
    obtain ⟨w, kr, rfl, he, B1⟩ := zx_topi B
    split at hz
    · rename_i ci hci
      split at hz
      · rename_i hc
        obtain ⟨c0, c1, c2, c3, c4, c5⟩ := hc
        have hw := zx_isc_ev c1 he
        obtain ⟨n1, n2⟩ := zx_cN hw c2
        rw [← hR.1] at c4
        rw [← hR.2] at c5
        obtain ⟨C, T, N, m1, -, m9⟩ := hMK.2.2.1 (ix + 65536) ci hci
        obtain ⟨m2, m5⟩ := m9 (by omega)
        rw [Nat.add_sub_cancel] at m2
        refine va_newq (C := C) hx hb hown (hts _ m2) (hao _ m5) B.1 B.2.1 B.2.2.1 B.2.2.2.1.1 hA n1 n2 (by omega) c4 c5 hd (fun a cA H1 K1 P1 D1 S1 => ?_)
        refine zx_K1 K (zx_one hz) (zx_J_new (q := .inr (.inl (3 + ci, e1.2.toNat, false, List.replicate e1.2.toNat (.inl (.inr (.inl ([], true))))))) hG B1 K1 P1 D1 S1 ⟨cA, tys.length, ?_, Or.inr ⟨by show 3 ≤ 3 + ci; omega, fun _ => none, rfl, zx_RA_rep (t := .inl (.inr (.inl ([], true)))) (x := .null) (Or.inl ⟨rfl, rfl⟩)⟩⟩)
        rw [Nat.add_comm 3 ci]
        show (tys ++ [(cA, FieldType.object C)])[tys.length]? = some (cA, .object ((cl[ci]?.map (fun q => q.1)).getD ""))
        rw [m1]
        simp
      · cases hz
    · cases hz
  · cases hz
theorem zx_xgs_ok {ix : Nat} (F : zx_FX p s m args meth c R cc own Ts nw cl A ex nL sts Y aos dt M) (hd : decode cc pc = .ok (.getstatic ix, 3)) (hG : zx_ok ρ G) (B : zx_B D cl A b ex ad0 nL s ρ h lv sk H locs ls kc tys ws lc) (hz : zx_xgs M pc G h lv k sk ix = some z) (K : zx_KK p l e R s m args below meth c Q D cl A b ex ad0 nL ρ z) : W p l e R s m args below meth c H locs k.1 k.2 Q (F0 m pc ls kc) := by
  obtain ⟨hx, hb, hown, hts, hnw, hA, hR, hin, hnL, hCX, hao, hCK, hMK⟩ := F
  unfold zx_xgs at hz
  split at hz
  · rename_i id hid
    split at hz
    · rename_i hi
      obtain ⟨t, t1, t2, t3⟩ := hMK.2.1 ix id hid
      obtain ⟨a, a1, a2⟩ := hCX.1.1 t t1
      have hv : zx_R b ex ρ (zx_as ws) (.inr (.inl ([id], false))) (.ref a) := Or.inr ⟨id, a, List.mem_singleton.mpr rfl, by rw [zx_ad, if_pos hi, ← t2]; exact a1, rfl⟩
      rcases t3 with t3 | ⟨host, t3⟩
      · exact va_gets hx hb a2 B.2.2.2.1.1 hown (hts _ t3) (fun _ h9 => h9) hd (zx_push_W hG B hz hv K)
      · exact va_getsN hx hb a2 B.2.2.2.1.1 hown (va_Nw.use rfl (hnw _ t3)) (fun _ h9 => h9) hd (zx_push_W hG B hz hv K)
    · cases hz
  · cases hz
theorem zx_xyl_ok (F : zx_FX p s m args meth c R cc own Ts nw cl A ex nL sts Y aos dt M) (hd : decode cc pc = .ok (.iaload, 1)) (hG : zx_ok ρ G) (B : zx_B D cl A b ex ad0 nL s ρ h lv sk H locs ls kc tys ws lc) (hz : zx_xyl Y pc G h lv k sk = some z) (K : zx_KK p l e R s m args below meth c Q D cl A b ex ad0 nL ρ z) : W p l e R s m args below meth c H locs k.1 k.2 Q (F0 m pc ls kc) := by
  obtain ⟨hx, hb, hown, hts, hnw, hA, hR, hin, hnL, hCX, hao, hCK, hMK⟩ := F
  unfold zx_xyl at hz
  split at hz
  · rename_i e1 id r
    obtain ⟨w, kr0, rfl, he, B0⟩ := zx_topi B
    obtain ⟨x2, kr, rfl, hv2, B1⟩ := zx_top1 B0
    split at hz
    · rename_i row hrow
      split at hrow
      case isFalse => cases hrow
      rename_i h8
      split at hz
      · rename_i gs hgs
        obtain ⟨G', k1, k2⟩ := zx_split_ok hG he hgs
        obtain ⟨y2, k3, k4⟩ := zx_all_ok hz k1
        obtain ⟨a, a0, a1, a2, a3⟩ := hCX.2 _ (zx_fd_mem hrow)
        rw [if_pos h8] at a3
        rcases hv2 with ⟨h4, -⟩ | ⟨i0, a', h4, h5, rfl⟩
        · cases h4
        · have hid : i0 = id := List.mem_singleton.mp h4
          subst hid
          rw [zx_ad, if_pos a0, a1] at h5
          have h5 : a = a' := Option.some.inj h5
          subst h5
          unfold zx_xyl1 at k3
          split at k3
          · cases k3
          · rename_i t ht
            obtain ⟨q1, q2⟩ := zx_rng_ok k2 ht he
            split at k3
            · rename_i hc
              obtain ⟨c1, c2, c3⟩ := hc
              have hw : w.toNatClampNeg = t.1.toNat := zx_cl (by omega)
              refine va_ti hx hb a3 B.2.2.2.1.1 (vp_in_iff.mpr ⟨by omega, by show w.toInt < (row.length : Int); omega⟩) rfl hd ?_
              refine zx_push_W k2 B1 k3 ⟨_, rfl, ?_⟩ (fun q hq => K q (k4 q hq))
              rw [hw]
              have hl : t.1.toNat < row.length := by omega
              have hmem : row.getD t.1.toNat 0 ∈ row := by
                rw [List.getD_eq_getElem?_getD, List.getElem?_eq_getElem hl]
                exact List.getElem_mem hl
              rw [zx_ofI (a2 _ hmem).1 (a2 _ hmem).2]
              exact zx_ev_iff.mpr ⟨0, rfl, by simp⟩
            · cases k3
      · cases hz
    · cases hz
  · cases hz
theorem zx_xyn_ok (F : zx_FX p s m args meth c R cc own Ts nw cl A ex nL sts Y aos dt M) (hd : decode cc pc = .ok (.arraylength, 1)) (hG : zx_ok ρ G) (B : zx_B D cl A b ex ad0 nL s ρ h lv sk H locs ls kc tys ws lc) (hz : zx_xyn Y pc G h lv k sk = some z) (K : zx_KK p l e R s m args below meth c Q D cl A b ex ad0 nL ρ z) : W p l e R s m args below meth c H locs k.1 k.2 Q (F0 m pc ls kc) := by
  obtain ⟨hx, hb, hown, hts, hnw, hA, hR, hin, hnL, hCX, hao, hCK, hMK⟩ := F
  unfold zx_xyn at hz
  split at hz
  · rename_i id r
    obtain ⟨x2, kr, rfl, hv2, B1⟩ := zx_top1 B
    split at hz
    · rename_i row hrow
      split at hrow
      case isFalse => cases hrow
      rename_i h8
      split at hz
      · rename_i hn
        obtain ⟨a, a0, a1, a2, a3⟩ := hCX.2 _ (zx_fd_mem hrow)
        rw [if_pos h8] at a3
        rcases hv2 with ⟨h4, -⟩ | ⟨i0, a', h4, h5, rfl⟩
        · cases h4
        · have hid : i0 = id := List.mem_singleton.mp h4
          subst hid
          rw [zx_ad, if_pos a0, a1] at h5
          have h5 : a = a' := Option.some.inj h5
          subst h5
          refine va_tlen hx hb a3 B.2.2.2.1.1 rfl hd (zx_push_W hG B1 hz ⟨_, rfl, ?_⟩ K)
          show zx_ev ρ ([], (row.length : Int)) = some (Int32.ofNat row.length).toInt
          rw [Int32.toInt_ofNat_of_lt hn]
          exact zx_ev_iff.mpr ⟨0, rfl, by simp⟩
      · cases hz
    · cases hz
  · cases hz
theorem zx_xsl_ok (F : zx_FX p s m args meth c R cc own Ts nw cl A ex nL sts Y aos dt M) (hS : zx_SX b xs A s M ρ) (hd : decode cc pc = .ok (.iaload, 1)) (hG : zx_ok ρ G) (B : zx_B D cl A b ex ad0 nL s ρ h lv sk H locs ls kc tys ws lc) (hz : zx_xsl M pc G h lv k sk = some z) (K : zx_KK p l e R s m args below meth c Q D cl A b ex ad0 nL ρ z) : W p l e R s m args below meth c H locs k.1 k.2 Q (F0 m pc ls kc) := by
  obtain ⟨hx, hb, hown, hts, hnw, hA, hR, hin, hnL, hCX, hao, hCK, hMK⟩ := F
  unfold zx_xsl at hz
  split at hz
  · rename_i e1 r
    obtain ⟨w, kr0, rfl, he, B0⟩ := zx_topi B
    obtain ⟨x2, kr, rfl, hv2, B1⟩ := zx_top1 B0
    have hv2 : x2 = .ref b := hv2
    subst hv2
    split at hz
    · rename_i t u w0 ht hu hw0
      split at hz
      · rename_i hc
        obtain ⟨c1, c2, c3, c4, c6, c5⟩ := hc
        obtain ⟨L, i0, s1, s2, s3, s4, s5, s7, s6⟩ := hS c5
        have e7 := zx_sub_ev he (zv_var s7)
        have e0 := zx_sub_ev he (zv_var s5)
        have q1 := zx_rng_ok hG ht e7
        have q2 := zv_rng_ok hG hu e0
        have q3 := zv_rng_ok hG hw0 he
        have hw : w.toNatClampNeg = i0 + t.1.toNat := by
          have h9 : w.toInt = ((i0 + t.1.toNat : Nat) : Int) := by omega
          rw [zx_cl h9]; rfl
        refine va_sld hx hb s1 s2 s3 B.2.2.2.1.1 (vp_in_iff.mpr ⟨by omega, by omega⟩) hd ?_
        refine zx_push_W hG B1 hz ⟨_, rfl, ?_⟩ K
        rw [hw]
        refine zx_ev_iff.mpr ⟨(xs (i0 + t.1.toNat)).toInt, zx_evl_cons.mpr ⟨(xs (i0 + t.1.toNat)).toInt, 0, s6 _ (by omega), rfl, by simp⟩, by simp⟩
      · cases hz
    · cases hz
  · cases hz
theorem zx_xsn_ok (F : zx_FX p s m args meth c R cc own Ts nw cl A ex nL sts Y aos dt M) (hS : zx_SX b xs A s M ρ) (hd : decode cc pc = .ok (.arraylength, 1)) (hG : zx_ok ρ G) (B : zx_B D cl A b ex ad0 nL s ρ h lv sk H locs ls kc tys ws lc) (hz : zx_xsn M pc G h lv k sk = some z) (K : zx_KK p l e R s m args below meth c Q D cl A b ex ad0 nL ρ z) : W p l e R s m args below meth c H locs k.1 k.2 Q (F0 m pc ls kc) := by
  obtain ⟨hx, hb, hown, hts, hnw, hA, hR, hin, hnL, hCX, hao, hCK, hMK⟩ := F
  unfold zx_xsn at hz
  split at hz
  · rename_i r
    obtain ⟨x2, kr, rfl, hv2, B1⟩ := zx_top1 B
    have hv2 : x2 = .ref b := hv2
    subst hv2
    split at hz
    · rename_i hc
      obtain ⟨L, i0, s1, s2, s3, s4, s5, s7, s6⟩ := hS hc
      refine va_slen hx hb s1 s2 s3 B.2.2.2.1.1 hd (zx_push_W hG B1 hz ⟨_, rfl, ?_⟩ K)
      rw [Int32.toInt_ofNat_of_lt s4]
      exact zx_ev_iff.mpr ⟨(L : Int), zx_evl_cons.mpr ⟨(L : Int), 0, s5, rfl, by simp⟩, by simp⟩
    · cases hz
  · cases hz
end ZXI
end
