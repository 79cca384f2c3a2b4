/-! zx: the start: statics, classes -/
set_option maxRecDepth 1000000 in
theorem zx_CX0 {s : State} {args : Array Value} (hts : ∀ w ∈ lw_tbl, w.before args s = true) (hgv : (Jvm.Cond.and given_1 narrow_1).before args s = true) : ∃ ex : List Nat, zx_CX ex (fun q => s.heap.size ≤ q) s s.heap zx_sts zx_Yt := by
  have hs := flat_of_before _ hgv
  have hA : ∀ a : Nat, a < s.heap.size → ¬ (fun q : Nat => s.heap.size ≤ q) a := fun a h q => Nat.not_le.mpr h q
  have hF : (Jvm.Cond.exactly (.static "OperaHouse$Token" "FINISH" "LOperaHouse$Token;") "OperaHouse$Token").before args s = true := hs _ (by decide +kernel)
  obtain ⟨aF, _, _, _, hF1, -⟩ := Cond.exactly_spec (args := args) (first := s) (o := none) (s := s) (idx := []) hF
  have hZF := va_Zof (A := fun q => s.heap.size ≤ q) (hts (.laysStatic "OperaHouse$Token" "FINISH" "LOperaHouse$Token;") (zx_chunk_ok (c := 2) (List.mem_of_getElem? (i := 100) rfl))) (hts (.initialized "OperaHouse$Token") (zx_chunk_ok (c := 1) (List.mem_of_getElem? (i := 10) rfl))) hF1 hA
  have hNEARa : (Jvm.Cond.arrayOf (.static "OperaHouse" "NEAR" "[I") .int).before args s = true := hs _ (by decide +kernel)
  have hNEARl : (Jvm.Cond.eq (.length (.static "OperaHouse" "NEAR" "[I")) (.int 15)).before args s = true := hs _ (by decide +kernel)
  have hNEARe : ∀ j, j < 15 → Jvm.Cond.eq (.elem (.static "OperaHouse" "NEAR" "[I") (.int (Int32.ofNat j))) (.int (Int32.ofInt (([1, 2, 3, 0, 4, -1, 0, -1, -1, 0, 4, -1, 1, 3, -1] : List Int).getD j 0))) ∈ flatC (Jvm.Cond.and given_1 narrow_1) := by decide +kernel
  obtain ⟨aNEAR, hNEAR1, hNEAR2⟩ := va_Tof (N := 15) (ty := .int) (f := fun j => .int (Int32.ofInt (([1, 2, 3, 0, 4, -1, 0, -1, -1, 0, 4, -1, 1, 3, -1] : List Int).getD j 0))) (A := fun q => s.heap.size ≤ q) (by decide) hNEARa (va_eqt hNEARl) (fun j hj => va_eqt (hs _ (hNEARe j hj))) hA
  have hZNEAR := va_Zof (A := fun q => s.heap.size ≤ q) (hts (.laysStatic "OperaHouse" "NEAR" "[I") (zx_chunk_ok (c := 4) (List.mem_of_getElem? (i := 191) rfl))) (hts (.initialized "OperaHouse") (zx_chunk_ok (c := 1) (List.mem_of_getElem? (i := 1) rfl))) hNEAR1 hA
  have hWORTHa : (Jvm.Cond.arrayOf (.static "OperaHouse" "WORTH" "[I") .int).before args s = true := hs _ (by decide +kernel)
  have hWORTHl : (Jvm.Cond.eq (.length (.static "OperaHouse" "WORTH" "[I")) (.int 4)).before args s = true := hs _ (by decide +kernel)
  have hWORTHe : ∀ j, j < 4 → Jvm.Cond.eq (.elem (.static "OperaHouse" "WORTH" "[I") (.int (Int32.ofNat j))) (.int (Int32.ofInt (([1, 5, 25, 125] : List Int).getD j 0))) ∈ flatC (Jvm.Cond.and given_1 narrow_1) := by decide +kernel
  obtain ⟨aWORTH, hWORTH1, hWORTH2⟩ := va_Tof (N := 4) (ty := .int) (f := fun j => .int (Int32.ofInt (([1, 5, 25, 125] : List Int).getD j 0))) (A := fun q => s.heap.size ≤ q) (by decide) hWORTHa (va_eqt hWORTHl) (fun j hj => va_eqt (hs _ (hWORTHe j hj))) hA
  have hZWORTH := va_Zof (A := fun q => s.heap.size ≤ q) (hts (.laysStatic "OperaHouse" "WORTH" "[I") (zx_chunk_ok (c := 4) (List.mem_of_getElem? (i := 186) rfl))) (hts (.initialized "OperaHouse") (zx_chunk_ok (c := 1) (List.mem_of_getElem? (i := 1) rfl))) hWORTH1 hA
  refine ⟨[aF, aNEAR, aWORTH], fun q hq => ?_, fun q hq => ?_⟩
  · simp only [zx_sts, List.mem_cons, List.not_mem_nil, or_false] at hq
    rcases hq with rfl | rfl | rfl
    · exact ⟨aF, rfl, hZF⟩
    · exact ⟨aNEAR, rfl, hZNEAR⟩
    · exact ⟨aWORTH, rfl, hZWORTH⟩
  · simp only [zx_Yt, List.mem_cons, List.not_mem_nil, or_false] at hq
    rcases hq with rfl | rfl
    · exact ⟨aNEAR, by decide, rfl, by decide, hNEAR2⟩
    · exact ⟨aWORTH, by decide, rfl, by decide, hWORTH2⟩
theorem zx_inst : ∀ (c : Nat) (q : vw_C), vwCl[c]? = some q → ∃ n, Jvm.Cond.instantiable q.1 n ∈ zx_Ts := by
  intro c q h
  match c, h with
  | 0, h => cases h; exact ⟨8, zx_mem (c := 1) (i := 192) rfl rfl⟩
  | 1, h => cases h; exact ⟨9, zx_mem (c := 1) (i := 41) rfl rfl⟩
  | 2, h => cases h; exact ⟨12, zx_mem (c := 1) (i := 35) rfl rfl⟩
  | 3, h => cases h; exact ⟨6, zx_mem (c := 2) (i := 169) rfl rfl⟩
  | 4, h => cases h; exact ⟨13, zx_mem (c := 2) (i := 196) rfl rfl⟩
  | 5, h => cases h; exact ⟨19, zx_mem (c := 2) (i := 2) rfl rfl⟩
  | 6, h => cases h; exact ⟨10, zx_mem (c := 1) (i := 88) rfl rfl⟩
  | 7, h => cases h; exact ⟨9, zx_mem (c := 2) (i := 94) rfl rfl⟩
  | 8, h => cases h; exact ⟨3, zx_mem (c := 2) (i := 78) rfl rfl⟩
  | 9, h => cases h; exact ⟨9, zx_mem (c := 2) (i := 133) rfl rfl⟩
  | 10, h => cases h; exact ⟨14, zx_mem (c := 1) (i := 27) rfl rfl⟩
  | 11, h => cases h; exact ⟨101, zx_mem (c := 6) (i := 23) rfl rfl⟩
  | n + 12, h => simp [vwCl] at h
/-- a number for each place of a list, by a choice for each -/
theorem zx_choose {α β : Type} {P : Nat → α → β → Prop} (d : β) : ∀ (l : List α), (∀ (c : Nat) (q : α), l[c]? = some q → ∃ x, P c q x) → ∃ f : Nat → β, ∀ (c : Nat) (q : α), l[c]? = some q → P c q (f c)
  | [], _ => ⟨fun _ => d, fun c q h => by simp at h⟩
  | a :: r, h => by
    obtain ⟨x, hx⟩ := h 0 a rfl
    obtain ⟨f, hf⟩ := zx_choose (P := fun c => P (c + 1)) d r (fun c q hc => h (c + 1) q (by simpa using hc))
    refine ⟨fun c => match c with
      | 0 => x
      | c + 1 => f c, fun c q hc => ?_⟩
    match c, hc with
    | 0, hc => cases hc; exact hx
    | c + 1, hc => exact hf c q (by simpa using hc)
theorem zx_K0 {s : State} {args : Array Value} (hts : ∀ w ∈ zx_Ts, w.before args s = true) : ∃ D : va_G, va_K D vwCl [] s := by
  obtain ⟨f, hf⟩ := zx_choose (P := fun _ (q : vw_C) (x : ClassId × (Nat → Nat)) => u_Kn s q.1 q.2.1 q.2.2 x.1 x.2) (0, fun _ => 0) vwCl (fun c q hq => by
    obtain ⟨C, T, N⟩ := q
    obtain ⟨n, hn⟩ := zx_inst c _ hq
    obtain ⟨cC, iS, h⟩ := u_known (C := C) (T := T) (N := N) hts (zx_CKt c C T N hq).1 (hts _ hn)
    exact ⟨(cC, iS), h⟩)
  exact ⟨(fun k => (f k).1, fun k => (f k).2), fun c q hq => hf c q hq, fun k q h => by simp at h⟩
theorem zx_nw0 {s : State} {args : Array Value} (hts : ∀ w ∈ lw_tbl, w.before args s = true) : ∀ w ∈ zx_nw, va_Nw w s := by
  have h : ∀ w ∈ zx_nw, w ∈ lw_tbl ∧ w.onTables = true := by
    intro w hw
    simp only [zx_nw, List.mem_cons, List.not_mem_nil, or_false] at hw
    rcases hw with rfl | rfl | rfl | rfl | rfl | rfl | rfl | rfl | rfl | rfl | rfl | rfl | rfl
    · exact ⟨zx_chunk_ok (c := 1) (List.mem_of_getElem? (i := 89) rfl), rfl⟩
    · exact ⟨zx_chunk_ok (c := 1) (List.mem_of_getElem? (i := 193) rfl), rfl⟩
    · exact ⟨zx_chunk_ok (c := 2) (List.mem_of_getElem? (i := 3) rfl), rfl⟩
    · exact ⟨zx_chunk_ok (c := 2) (List.mem_of_getElem? (i := 79) rfl), rfl⟩
    · exact ⟨zx_chunk_ok (c := 3) (List.mem_of_getElem? (i := 82) rfl), rfl⟩
    · exact ⟨zx_chunk_ok (c := 3) (List.mem_of_getElem? (i := 188) rfl), rfl⟩
    · exact ⟨zx_chunk_ok (c := 3) (List.mem_of_getElem? (i := 190) rfl), rfl⟩
    · exact ⟨zx_chunk_ok (c := 3) (List.mem_of_getElem? (i := 196) rfl), rfl⟩
    · exact ⟨zx_chunk_ok (c := 3) (List.mem_of_getElem? (i := 215) rfl), rfl⟩
    · exact ⟨zx_chunk_ok (c := 4) (List.mem_of_getElem? (i := 83) rfl), rfl⟩
    · exact ⟨zx_chunk_ok (c := 4) (List.mem_of_getElem? (i := 185) rfl), rfl⟩
    · exact ⟨zx_chunk_ok (c := 4) (List.mem_of_getElem? (i := 190) rfl), rfl⟩
    · exact ⟨zx_chunk_ok (c := 5) (List.mem_of_getElem? (i := 121) rfl), rfl⟩
  exact fun w hw => va_Nw.of (h w hw).2 (hts w (h w hw).1)
theorem zx_ao0 {s : State} {args : Array Value} (hts : ∀ w ∈ lw_tbl, w.before args s = true) : ∀ C ∈ zx_aos, va_AO C s := by
  intro C hC
  simp only [zx_aos, List.mem_cons, List.not_mem_nil, or_false] at hC
  rcases hC with rfl | rfl
  · exact va_AO.of (hts (.arrayOver (.object "OperaHouse$Opera")) (zx_chunk_ok (c := 1) (List.mem_of_getElem? (i := 86) rfl)))
  · exact va_AO.of (hts (.arrayOver (.object "OperaHouse$Contract")) (zx_chunk_ok (c := 1) (List.mem_of_getElem? (i := 87) rfl)))
