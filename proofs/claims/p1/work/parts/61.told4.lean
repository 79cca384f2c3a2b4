/-! zx: the law's call of told -/
def zx_vx : zx_V := .inr (.inl ([64], false))
def zx_vk : zx_V := .inl ([(2, 1)], 0)
def zx_vw : zx_V := .inl ([(3, 1)], 0)
def zx_vo : zx_V := .inr (.inl ([351], false))
def zx_q917 : Nat × zx_T := (917, zx_GA 15, zx_hA, zx_lvA, [zx_vo, zx_vw, zx_vk, zx_vx], (288, 73089))
def zx_q5 : Nat × zx_T := (5, zx_GA 15, zx_hA, zx_args 0 [zx_vx, zx_vk, zx_vw, zx_vo], [zx_vw, zx_vk, zx_vx, .inl ([], 0), zx_vo], (0, 0))
def zx_GB (lo hi : Int) : zx_G := [(6, 6), (-2147483648, 2147483647), (lo, hi), (-2147483648, 2147483647), (-2147483648, 2147483647), (-2147483648, 2147483647), (-2147483648, 2147483647), (15, 15)]
def zx_q21 (lo hi : Int) : Nat × zx_T := (21, zx_GB lo hi, zx_hA, zx_args 0 [zx_vx, zx_vk, zx_vw], [], (0, 0))
def zx_los : List zx_Os := [.inr (zx_q21 (-2147483648) (-1)), .inr (zx_q21 0 2147483647)]
set_option maxRecDepth 1000000 in
theorem zx_r917 : zx_ex zx_Yt zx_dt zx_rmt (fun pc => Nat.beq pc 917) zx_mlaw zx_f0 60 (zx_drop 903 zx_tlaw) (zx_GA 15) zx_hA zx_lvA (288, 73089) [] = some [.inr zx_q917] := zx_eqA_ok (by decide +kernel)
set_option maxRecDepth 1000000 in
theorem zx_r5 : zx_ex zx_Yt zx_dt zx_rmt (fun pc => Nat.beq pc 5) zx_mt2 zx_f0 60 zx_tt2 (zx_GA 15) zx_hA (zx_args 0 [zx_vx, zx_vk, zx_vw, zx_vo]) (0, 0) [] = some [.inr zx_q5] := zx_eqA_ok (by decide +kernel)
set_option maxRecDepth 1000000 in
theorem zx_r21 : zx_ex zx_Yt zx_dt zx_rmt (fun pc => Nat.beq pc 21) zx_mt1 zx_f0 60 zx_tt1 (zx_GA 15) zx_hA (zx_args 0 [zx_vx, zx_vk, zx_vw]) (0, 0) [] = some zx_los := zx_eqA_ok (by decide +kernel)
set_option maxRecDepth 1000000 in
theorem zx_o64 : zx_objs zx_hA 10 [64] = true := by decide +kernel
set_option maxRecDepth 1000000 in
theorem zx_r920 : (zx_back [] (289, 73095) (zx_t2o zx_los)).all (fun q => zx_lB zx_ft 400 (920, q.1, q.2.1, zx_lvA, q.2.2.1, q.2.2.2)) = true := by decide +kernel
set_option maxRecDepth 1000000 in
theorem zx_d917 : decode code 917 = .ok (.invokestatic 89, 3) := by decide +kernel
theorem zx_los_all : ∀ o ∈ zx_los, ∃ q : Nat × zx_T, o = .inr q ∧ q.1 = 21 ∧ q.2.2.2.2.1 = [] ∧ q.2.2.2.2.2 = (0, 0) := by
  intro o ho
  simp only [zx_los, List.mem_cons, List.not_mem_nil, or_false] at ho
  rcases ho with rfl | rfl
  · exact ⟨_, rfl, rfl, rfl, rfl⟩
  · exact ⟨_, rfl, rfl, rfl, rfl⟩
section ZXQ
variable {p : Program} {l : Launch} {e : Env} {s : State} {m : MethodId} {below : List Frame} {meth : Method} {c : Code} {b L : Nat} {xs : Nat → Int32} {D : va_G} {ex : List Nat}
theorem zx_o903 (hl : l.stackTraces = false) (hXE : zx_XE (zx_A0 s) s) (hL : L ≤ 6) (C0 : lw_At p s m meth c b L xs) (hCX : zx_CX ex (zx_A0 s) s s.heap zx_sts zx_Yt) {r : List Int} {H : Heap} {locs : List Loc} {ls : Array Slot} {kc : List Value}
    (J : zx_J D vwCl (zx_A0 s) b ex [] 7 s ([(L : Int), (xs 0).toInt, (xs 1).toInt, (xs 2).toInt, (xs 3).toInt, (xs 4).toInt, (xs 5).toInt] ++ r) (zx_GA 15) zx_hA zx_lvA [] H locs ls kc) : W p l e room_1 s m #[Value.ref b] below meth c H locs 288 73089 (lw_Z below #[Value.ref b] s) (F0 m 903 ls kc) := by
  have hr917 := zx_r917
  cases hc : zx_drop 903 zx_tlaw with
  | nil => rw [hc, zx_ex_nil] at hr917; cases hr917
  | cons x nx =>
    obtain ⟨g1, g2⟩ := zx_drop_ok (t := 903) (l := zx_tlaw)
    rw [hc] at hr917 g1
    rw [← g2 x nx hc]
    refine zx_law_ok (k := (288, 73089)) hL C0 hCX (zx_f0_ok (d := 0)) (by decide) g1 J hr917 (fun o ho => ?_) (fun q hq r2 H' locs' ls' kc' J' => ?_)
    · rcases List.mem_cons.mp ho with e1 | e1
      · cases e1
      · cases e1
    · rcases List.mem_cons.mp hq with e1 | e1
      · cases e1
        obtain ⟨hG', tys', ws', lc', b1, b2, b3, ⟨b4, b40⟩, b5, b6, b7, b8⟩ := J'
        match kc', b8 with
        | vo :: vw :: vk :: vx :: kr, b8 =>
          obtain ⟨ho', hw', hk', hx', hr'⟩ := b8
          cases kr with
          | cons _ _ => exact hr'.elim
          | nil =>
            obtain ⟨hx, hb, hr, hml, hown, hts, hX, hbl, hlocks, hgv⟩ := id C0
            have htT : ∀ w ∈ zx_Ts, w.before #[Value.ref b] s = true := fun w hw => hts w (List.mem_filter.mp hw).1
            have hA : ∀ q, s.heap.size ≤ q → zx_A0 s q := fun _ h => h
            have hM := zx_t2_ok (l := l) (D := D) (A := zx_A0 s) (b := b) (ex := ex) (tys := tys') (ws := ws') (sz := H'.size) (av := [vx, vk, vw, vo]) (q2 := zx_q5) (w := zx_vw) (k := zx_vk) (ids := [64]) (r := [.inl ([], 0), zx_vo]) hl zx_r5 rfl rfl rfl zx_o64 (by decide) zx_r21 zx_los_all (by decide) (by decide) hG' b5 ⟨hx', hk', hw', ho', trivial⟩ (fun z hz => Nat.le_trans b4.1 hz)
            have hcall : CallFix p m c code 7 s #[Value.ref b] zx_Ts R_law := ⟨hx, hb, hml, hown, htT⟩
            have hgo : ∀ w ∈ zx_Ts, w ∈ zx_Ts ∧ ((w.onTables && w.keeps) = true ∨ ∃ ty, w = .arrayClass ty) := fun w hw => ⟨hw, good_of_word (List.all_eq_true.mp zx_Ts_good w hw)⟩
            have hpre : ∀ U : State, U.heap = H' → s.WarmedH U.vm → zx_Px D (zx_A0 s) ex tys' ws' H'.size [vx, vk, vw, vo] [vx, vk, vw, vo].toArray U := fun U hU hW =>
              ⟨rfl, ⟨by rw [hU], by rw [hU]; exact b2, va_K.moved hW.alike b1, b3, by rw [hU]; exact zx_CX_move hW.alike (fun a h1 h2 => b4.2.1 a h1 h2) hCX, zx_nw_warm zx_nw_kind hW (zx_nw0 hts), fun C hC => va_AO.moved hW.alike (zx_ao0 hts C hC)⟩, zx_XE_move hW (fun a h1 h2 => by rw [hU]; exact b4.2.1 a h1 h2) hXE⟩
            have Bz : zx_B D vwCl (zx_A0 s) b ex [] 7 s _ zx_hA zx_lvA [] H' locs' ls' [] tys' ws' lc' := ⟨b1, b2, b3, ⟨b4, b40⟩, b5, b6, b7, trivial⟩
            refine zx_run_W (k := (288, 73089)) (rm := (1, 6)) hA Bz (vx_runSW (As := [vx, vk, vw, vo]) (rest := []) (own := R_law) (index := 89) (n := 4) hcall hM (vx_cwSW 4 htT (fun w hw => by
              rcases List.mem_append.mp hw with hw | hw
              · simp only [List.mem_cons, List.not_mem_nil, or_false] at hw
                rcases hw with rfl | rfl | rfl
                · exact hgo _ (zx_w1t _ (by simp [R_law]))
                · exact hgo _ (zx_w1t _ (by simp))
                · exact hgo _ (zx_w1t _ (by simp [zx_y2]))
              · exact hgo w ((List.mem_cons.mp hw).elim (fun g => by rw [g]; exact zx_w1t _ (by simp)) id)) rfl rfl rfl ⟨by decide, by decide, by decide⟩ ⟨by decide, by decide⟩) ⟨zx_Px_blind, hpre⟩ rfl rfl b7.1 rfl (lv_room (by decide)) zx_d917 ⟨by decide, by decide⟩) (fun q hq r3 H3 locs3 kc3 J3 => ?_)
            have hq3 := List.all_eq_true.mp zx_r920 q hq
            rw [List.append_assoc] at J3
            exact zx_lB_ok (q := (920, q.1, q.2.1, zx_lvA, q.2.2.1, q.2.2.2)) hL C0 hCX zx_ft_ok (by decide) hq3 J3
        | [], b8 => exact b8.elim
        | [_], b8 => exact b8.2.elim
        | [_, _], b8 => exact b8.2.2.elim
        | [_, _, _], b8 => exact b8.2.2.2.elim
      · cases e1
end ZXQ
