/-! zx: the whole walk -/
theorem zx_XE0 {s : State} {D : va_G} {args : Array Value} (hts : ∀ w ∈ lw_tbl, w.before args s = true) (hgv : (Jvm.Cond.and given_1 narrow_1).before args s = true) (hK : va_K D vwCl [] s) : zx_XE (zx_A0 s) s := by
  have hs := flat_of_before _ hgv
  have hA : ∀ a : Nat, a < s.heap.size → ¬ zx_A0 s a := fun a h q => Nat.not_le.mpr h q
  have hcl : s.vm.findClass "OperaHouse" = some (D.1 10) := (hK.1 10 (RX11, TX11, 14) rfl).2.1
  obtain ⟨-, -, -, sa, -, -, -, -, -, hev⟩ := Cond.stringRef_spec (args := args) (first := s) (o := none) (s := s) (idx := []) hcl (hts _ zx_m240)
  exact ⟨fun w hw => va_Nw.of (zx_nx_on w hw) (hts w (zx_nx_l w hw)), ⟨sa, vk_R.of (hts _ zx_m240) hev⟩, vx_Zqof (hts _ zx_mU.1) (hts _ zx_mU.2.2) (hs _ zx_mR0.1) hA, vx_Zqof (hts _ zx_mU.2.1) (hts _ zx_mU.2.2) (hs _ zx_mR0.2) hA⟩
theorem zx_osA_1 : ∀ o, .inl o ∈ zx_osA → zx_is1 o = true := by
  intro o ho
  simp only [zx_osA, List.mem_cons, List.not_mem_nil, or_false] at ho
  rcases ho with h | h | h | h | h | h | h | h | h | h | h | h | h | h | h | h | h | h | h | h | h | h | h | h | h | h | h | h | h | h
  · cases h; rfl
  · cases h; rfl
  · cases h
  · cases h
  · cases h
  · cases h
  · cases h
  · cases h
  · cases h
  · cases h
  · cases h
  · cases h
  · cases h
  · cases h
  · cases h
  · cases h
  · cases h
  · cases h
  · cases h
  · cases h
  · cases h
  · cases h
  · cases h
  · cases h
  · cases h
  · cases h
  · cases h
  · cases h
  · cases h
  · cases h
theorem zx_GA0 {L : Nat} (hL : L ≤ 6) (xs : Nat → Int32) : zx_ok ([(L : Int), (xs 0).toInt, (xs 1).toInt, (xs 2).toInt, (xs 3).toInt, (xs 4).toInt, (xs 5).toInt] ++ []) zx_G0 := by
  refine ⟨rfl, fun i v b hv hb => ?_⟩
  rw [List.append_nil] at hv
  match i, hv, hb with
  | 0, hv, hb => cases hv; cases hb; exact ⟨by show (0 : Int) ≤ (L : Int); omega, by show (L : Int) ≤ 6; omega⟩
  | 1, hv, hb => cases hv; cases hb; exact zx_i32 _
  | 2, hv, hb => cases hv; cases hb; exact zx_i32 _
  | 3, hv, hb => cases hv; cases hb; exact zx_i32 _
  | 4, hv, hb => cases hv; cases hb; exact zx_i32 _
  | 5, hv, hb => cases hv; cases hb; exact zx_i32 _
  | 6, hv, hb => cases hv; cases hb; exact zx_i32 _
  | n + 7, hv, hb => simp at hv
/-- from the entry, for every script of at most 6 ints, the law comes to its end with true -/
theorem whole_start {p : Program} {e : Env} {s : State} {m : MethodId} {below : List Frame} {meth : Method} {c : Code} (l : Launch) (hflags : l.flags = flags0) {b L : Nat} {xs : Nat → Int32} (hL : L ≤ 6) (C0 : lw_At p s m meth c b L xs) : W p l e room_1 s m #[Value.ref b] below meth c s.heap [] 0 0 (lw_Z below #[Value.ref b] s) (entryFrame m ([Value.ref b] : List Value).toArray 7) := by
  have hl : l.stackTraces = false := by unfold Launch.stackTraces; rw [hflags]; decide
  obtain ⟨hx, hb, hr, hml, hown, hts, hX, hbl, hlocks, hgv⟩ := id C0
  obtain ⟨ex, hCX⟩ := zx_CX0 hts hgv
  have htT : ∀ w ∈ zx_Ts, w.before #[Value.ref b] s = true := fun w hw => hts w (List.mem_filter.mp hw).1
  obtain ⟨D, hK⟩ := zx_K0 htT
  have hXE := zx_XE0 hts hgv hK
  have hlv := lv_entry [Value.ref b] (n := 7) (by show 1 ≤ 7; omega)
  rw [lg_entry_eq]
  generalize (lg_sl [Value.ref b] ++ List.replicate (7 - (lg_sl [Value.ref b]).length) Slot.unset).toArray = ls at hlv ⊢
  have J : zx_J D vwCl (zx_A0 s) b ex [] 7 s ([(L : Int), (xs 0).toInt, (xs 1).toInt, (xs 2).toInt, (xs 3).toInt, (xs 4).toInt, (xs 5).toInt] ++ []) zx_G0 [] [(0, .inr (.inr false))] [] s.heap [] ls [] :=
    ⟨zx_GA0 hL xs, [], [], lv_args 0 [Value.ref b], hK, fun k q h => by simp at h, ⟨fun i j p q h => by simp at h, fun k q h => by simp at h⟩, ⟨va_S.rf, [], rfl⟩, trivial, ⟨⟨rfl, rfl⟩, trivial⟩, hlv, trivial⟩
  have hSA := zx_SA_eq
  unfold zx_SA at hSA
  obtain ⟨x, nx, h1, h2⟩ : ∃ (x : Nat × Instr × Nat) (nx : List (Nat × Instr × Nat)), zx_tlaw = x :: nx ∧ x.1 = 0 := ⟨_, _, rfl, rfl⟩
  rw [h1] at hSA
  have g : W p l e room_1 s m #[Value.ref b] below meth c s.heap [] 0 0 (lw_Z below #[Value.ref b] s) (F0 m x.1 ls []) := by
    refine zx_law_ok (k := (0, 0)) hL C0 hCX zx_ft_ok (by decide) (fun y hy => by rw [h1]; exact hy) J hSA zx_osA_1 (fun q hq r2 H' locs' ls' kc' J' => ?_)
    simp only [zx_osA, List.mem_cons, List.not_mem_nil, or_false] at hq
    rcases hq with h | h | h | h | h | h | h | h | h | h | h | h | h | h | h | h | h | h | h | h | h | h | h | h | h | h | h | h | h | h
    · cases h
    · cases h
    · cases h; exact zx_lB_ok hL C0 hCX zx_ft_ok (by decide) zx_o168 J'
    · cases h; exact zx_lB_ok hL C0 hCX zx_ft_ok (by decide) zx_o241 J'
    · cases h; exact zx_lB_ok hL C0 hCX zx_ft_ok (by decide) zx_o266 J'
    · cases h; exact zx_lB_ok hL C0 hCX zx_ft_ok (by decide) zx_o291 J'
    · cases h; exact zx_lB_ok hL C0 hCX zx_ft_ok (by decide) zx_o368 J'
    · cases h; exact zx_lB_ok hL C0 hCX zx_ft_ok (by decide) zx_o417 J'
    · cases h; exact zx_lB_ok hL C0 hCX zx_ft_ok (by decide) zx_o466 J'
    · cases h; exact zx_lB_ok hL C0 hCX zx_ft_ok (by decide) zx_o503 J'
    · cases h; exact zx_lB_ok hL C0 hCX zx_ft_ok (by decide) zx_o528 J'
    · cases h; exact zx_lB_ok hL C0 hCX zx_ft_ok (by decide) zx_o541 J'
    · cases h; exact zx_lB_ok hL C0 hCX zx_ft_ok (by decide) zx_o602 J'
    · cases h; exact zx_lB_ok hL C0 hCX zx_ft_ok (by decide) zx_o675 J'
    · cases h; exact zx_lB_ok hL C0 hCX zx_ft_ok (by decide) zx_o752 J'
    · cases h; exact zx_lB_ok hL C0 hCX zx_ft_ok (by decide) zx_o801 J'
    · cases h; exact zx_lB_ok hL C0 hCX zx_fm_ok (by decide) zx_o878 J'
    · cases h; exact zx_o903 hl hXE hL C0 hCX J'
    · cases h; exact zx_lB_ok hL C0 hCX zx_ft_ok (by decide) zx_o971 J'
    · cases h; exact zx_lB_ok hL C0 hCX zx_ft_ok (by decide) zx_o1032 J'
    · cases h; exact zx_lB_ok hL C0 hCX zx_ft_ok (by decide) zx_o1081 J'
    · cases h; exact zx_lB_ok hL C0 hCX zx_ft_ok (by decide) zx_o1130 J'
    · cases h; exact zx_lB_ok hL C0 hCX zx_fm_ok (by decide) zx_o1179 J'
    · cases h; exact zx_lB_ok hL C0 hCX zx_ft_ok (by decide) zx_o1216 J'
    · cases h; exact zx_lB_ok hL C0 hCX zx_ft_ok (by decide) zx_o1265 J'
    · cases h; exact zx_lB_ok hL C0 hCX zx_ft_ok (by decide) zx_o1314 J'
    · cases h; exact zx_lB_ok hL C0 hCX zx_ft_ok (by decide) zx_o1351 J'
    · cases h; exact zx_lB_ok hL C0 hCX zx_ft_ok (by decide) zx_o1400 J'
    · cases h; exact zx_lB_ok hL C0 hCX zx_ft_ok (by decide) zx_o1425 J'
    · cases h; exact zx_lB_ok hL C0 hCX zx_ft_ok (by decide) zx_o1438 J'
  rw [h2] at g
  exact g
