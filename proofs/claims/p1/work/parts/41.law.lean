/-! zx: the law's walk, cut at each call -/
def zx_is1 (o : zx_Ou) : Bool := match o.2.2 with
  | some (.inl e) => zx_isc e && decide (e.2 = 1)
  | _ => false
def zx_G0 : zx_G := [(0, 6), (-2147483648, 2147483647), (-2147483648, 2147483647), (-2147483648, 2147483647), (-2147483648, 2147483647), (-2147483648, 2147483647), (-2147483648, 2147483647)]
def zx_stp : Nat → Bool := zx_has [168, 241, 266, 291, 368, 417, 466, 503, 528, 541, 602, 675, 752, 801, 878, 903, 971, 1032, 1081, 1130, 1179, 1216, 1265, 1314, 1351, 1400, 1425, 1438]
section ZXL
variable {p : Program} {l : Launch} {e : Env} {s : State} {m : MethodId} {below : List Frame} {meth : Method} {c : Code} {b L : Nat} {xs : Nat → Int32} {D : va_G} {ex : List Nat} {f : zx_Fn} {d : Nat}
abbrev zx_A0 (s : State) : Nat → Prop := fun q => s.heap.size ≤ q
theorem zx_law_ok (hL : L ≤ 6) (C0 : lw_At p s m meth c b L xs) (hCX : zx_CX ex (zx_A0 s) s s.heap zx_sts zx_Yt) (hf : zx_FOK l vwCl zx_Ts zx_nw zx_sts zx_Yt zx_aos zx_PRt zx_rmt d f) (hd : d ≤ 800) {stp : Nat → Bool} {n : Nat} {x : Nat × Instr × Nat} {nx : List (Nat × Instr × Nat)} {r : List Int} {G : zx_G} {h : List zx_C} {lv : List (Nat × zx_V)} {k : Nat × Nat} {sk : List zx_V} {os : List zx_Os} {H : Heap} {locs : List Loc} {ls : Array Slot} {kc : List Value}
    (hsub : ∀ y ∈ x :: nx, y ∈ zx_tlaw) (J : zx_J D vwCl (zx_A0 s) b ex [] 7 s ([(L : Int), (xs 0).toInt, (xs 1).toInt, (xs 2).toInt, (xs 3).toInt, (xs 4).toInt, (xs 5).toInt] ++ r) G h lv sk H locs ls kc) (hz : zx_ex zx_Yt zx_dt zx_rmt stp zx_mlaw f n (x :: nx) G h lv k sk = some os) (h1 : ∀ o, .inl o ∈ os → zx_is1 o = true)
    (h2 : ∀ q : Nat × zx_T, .inr q ∈ os → ∀ (r2 : List Int) (H' : Heap) (locs' : List Loc) (ls' : Array Slot) (kc' : List Value), zx_J D vwCl (zx_A0 s) b ex [] 7 s ([(L : Int), (xs 0).toInt, (xs 1).toInt, (xs 2).toInt, (xs 3).toInt, (xs 4).toInt, (xs 5).toInt] ++ r2) q.2.1 q.2.2.1 q.2.2.2.1 q.2.2.2.2.1 H' locs' ls' kc' → W p l e room_1 s m #[Value.ref b] below meth c H' locs' q.2.2.2.2.2.1 q.2.2.2.2.2.2 (lw_Z below #[Value.ref b] s) (F0 m q.1 ls' kc')) : W p l e room_1 s m #[Value.ref b] below meth c H locs k.1 k.2 (lw_Z below #[Value.ref b] s) (F0 m x.1 ls kc) := by
  obtain ⟨hx, hb, hr, hml, hown, hts, hX, hbl, hlocks, hgv⟩ := C0
  have htT : ∀ w ∈ zx_Ts, w.before #[Value.ref b] s = true := fun w hw => hts w (List.mem_filter.mp hw).1
  have F : zx_FX p s m #[Value.ref b] meth c room_1 code zx_oc13 zx_Ts zx_nw vwCl (zx_A0 s) ex 7 zx_sts zx_Yt zx_aos zx_dt zx_mlaw.2.1 :=
    ⟨hx, hb, hown, htT, zx_nw0 hts, fun _ h => h, ⟨rfl, rfl⟩, (fun q => nomatch (show false = true from q)), rfl, hCX, zx_ao0 hts, zx_CKt, zx_MK_of zx_kFc13 zx_kLc13⟩
  have hS : zx_SX b xs (zx_A0 s) s zx_mlaw.2.1 ([(L : Int), (xs 0).toInt, (xs 1).toInt, (xs 2).toInt, (xs 3).toInt, (xs 4).toInt, (xs 5).toInt] ++ r) := by
    intro _
    refine ⟨L, hX, hbl, Nat.not_le.mpr hbl, by omega, rfl, fun j hj => ?_⟩
    match j, hj with
    | 0, _ => rfl
    | 1, _ => rfl
    | 2, _ => rfl
    | 3, _ => rfl
    | 4, _ => rfl
    | 5, _ => rfl
    | n + 6, hj => omega
  refine zx_ex_ok (xs := xs) (own := zx_oc13) F zx_arrs hf (zx_LK_of zx_codes zx_kKc13) zx_Ts_good zx_nw_kind ⟨by show d + 1 ≤ 2048; omega, by show 100 * (d + 1) ≤ 84000; omega⟩ hml (zx_TB_of zx_bylaw) n x nx _ G h lv k sk os H locs ls kc hS hsub J hz ⟨fun o ho r2 H' locs' ls' kc' pc' k' ir tys ws g1 g2 g3 g4 g5 g6 g7 g8 g9 g10 g11 => ?_, fun q hq r2 H' locs' ls' kc' J' => ?_⟩
  · have hi := h1 o ho
    unfold zx_is1 at hi
    split at hi
    · rename_i e1 he1
      simp only [Bool.and_eq_true, decide_eq_true_iff] at hi
      rcases g11 with ⟨-, e2, -⟩ | ⟨rfl, e2, w, e3, rfl, e4, -⟩ | ⟨-, q, x1, e2, -⟩ | ⟨-, w, e2, -⟩
      · rw [he1] at e2; cases e2
      · rw [he1] at e3
        cases e3
        have hw : w = 1 := Int32.toInt_inj.mp (by rw [zx_isc_ev hi.1 e4, hi.2]; rfl)
        subst hw
        refine va_forget (fun q hq => g5.2.2 q hq) ?_
        refine W.widen (k := 600002) (n := 7302232) g8 g9 ?_
        exact lw_ret hx hb hr hlocks g10
      · rw [he1] at e2; cases e2
      · rw [he1] at e2; cases e2
    · cases hi
  · rw [List.append_assoc] at J'
    exact h2 q hq (r ++ r2) H' locs' ls' kc' J'
/-- a run from a place of the law that ends, always with 1 -/
noncomputable def zx_lB (f : zx_Fn) (n : Nat) (q : Nat × zx_T) : Bool := match zx_ex zx_Yt zx_dt zx_rmt (fun _ => false) zx_mlaw f n (zx_drop q.1 zx_tlaw) q.2.1 q.2.2.1 q.2.2.2.1 q.2.2.2.2.2 q.2.2.2.2.1 with
  | some os => os.all (fun o => match o with
    | .inl o => zx_is1 o
    | .inr _ => false)
  | none => false
theorem zx_lB_ok (hL : L ≤ 6) (C0 : lw_At p s m meth c b L xs) (hCX : zx_CX ex (zx_A0 s) s s.heap zx_sts zx_Yt) (hf : zx_FOK l vwCl zx_Ts zx_nw zx_sts zx_Yt zx_aos zx_PRt zx_rmt d f) (hd : d ≤ 800) {n : Nat} {q : Nat × zx_T} (hq : zx_lB f n q = true) {r : List Int} {H : Heap} {locs : List Loc} {ls : Array Slot} {kc : List Value}
    (J : zx_J D vwCl (zx_A0 s) b ex [] 7 s ([(L : Int), (xs 0).toInt, (xs 1).toInt, (xs 2).toInt, (xs 3).toInt, (xs 4).toInt, (xs 5).toInt] ++ r) q.2.1 q.2.2.1 q.2.2.2.1 q.2.2.2.2.1 H locs ls kc) : W p l e room_1 s m #[Value.ref b] below meth c H locs q.2.2.2.2.2.1 q.2.2.2.2.2.2 (lw_Z below #[Value.ref b] s) (F0 m q.1 ls kc) := by
  unfold zx_lB at hq
  split at hq
  · rename_i os hos
    have hall := List.all_eq_true.mp hq
    cases hc : zx_drop q.1 zx_tlaw with
    | nil => rw [hc, zx_ex_nil] at hos; cases hos
    | cons x nx =>
      obtain ⟨g1, g2⟩ := zx_drop_ok (t := q.1) (l := zx_tlaw)
      rw [hc] at hos g1
      rw [← g2 x nx hc]
      refine zx_law_ok hL C0 hCX hf hd g1 J hos (fun o ho => hall _ ho) (fun q' hq' => ?_)
      have := hall _ hq'
      cases this
  · cases hq
end ZXL
