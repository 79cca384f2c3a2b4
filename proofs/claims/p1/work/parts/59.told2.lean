/-! zx: told's contract: it throws -/
section ZXO
variable {l : Launch} {D : va_G} {A : Nat → Prop} {b : Nat} {ex : List Nat} {ρ : List Int} {tys : List (ClassId × FieldType)} {ws : va_W} {sz : Nat} {av : List Value} {G : zx_G} {h : List zx_C} {as : List zx_V} {los : List zx_Os} {n : Nat}
theorem zx_t1_ok (hl : l.stackTraces = false) (hz : zx_ex zx_Yt zx_dt zx_rmt (fun pc => Nat.beq pc 21) zx_mt1 zx_f0 n zx_tt1 G h (zx_args 0 as) (0, 0) [] = some los) (hall : ∀ o ∈ los, ∃ q : Nat × zx_T, o = .inr q ∧ q.1 = 21 ∧ q.2.2.2.2.1 = [] ∧ q.2.2.2.2.2 = (0, 0)) (hcats : zx_cats as ≤ 4) (hG : zx_ok ρ G) (hh : zx_F2 (fun c q => zx_RC vwCl b ex ρ (zx_as ws) tys c q.2) h ws) (ha : zx_F2 (zx_R b ex ρ (zx_as ws)) as av) (hA : ∀ q, sz ≤ q → A q) :
    vx_Met l zx_y1 (Jvm.Cond.code zx_y1 prog_1_method_19_code 4 (some .int) :: zx_Ts) ({ frames := 8, cells := 1, slots := 6, locals := 200 }) (zx_Px D A ex tys ws sz av) (fun _ _ _ _ => False) (zx_XC D A b ex ρ ws los) 1 6 A := by
  refine vx_ofW (cc := prog_1_method_19_code) (maxL := 4) (ret := some .int) (by decide) rfl ?_
  intro p e s m args below meth c s₁ B hml hexc hv
  obtain ⟨rfl, ⟨hsz, hP, hK, hD, hCX, hnw, hao⟩, hnx, ⟨sa, hstr⟩, hU, hN⟩ := hv
  have hx := B.exec
  have hb := B.bytes
  have hts0 := atoms_spec (ws := Jvm.Cond.code zx_y1 prog_1_method_19_code 4 (some .int) :: zx_Ts) B.pre
  have hts : ∀ w ∈ zx_Ts, w.before av.toArray s = true := fun w hw => hts0 w (List.mem_cons_of_mem _ hw)
  have hown : s.vm.findClass zx_oc0 = some m.cls := findClass_of_methodNamed B.named
  have hlocks := B.notSynchronized
  have hA' : ∀ q, s.heap.size ≤ q → A q := fun q hq => hA q (by rw [← hsz]; exact hq)
  have F : zx_FX p s m av.toArray meth c ({ frames := 8, cells := 1, slots := 6, locals := 200 } : Room) prog_1_method_19_code zx_oc0 zx_Ts zx_nw vwCl A ex 4 zx_sts zx_Yt zx_aos zx_dt zx_mt1.2.1 :=
    ⟨hx, hb, hown, hts, hnw, hA', ⟨rfl, rfl⟩, (fun q => nomatch (show false = true from q)), rfl, hCX, hao, zx_CKt, zx_MK_of zx_kFc0 zx_kLc0⟩
  have hlv := lv_entry av (n := 4) (by rw [zx_words ha]; exact hcats)
  rw [lg_entry_eq]
  generalize (lg_sl av ++ List.replicate (4 - (lg_sl av).length) Slot.unset).toArray = ls at hlv ⊢
  have J : zx_J D vwCl A b ex (zx_as ws) 4 s ρ G h (zx_args 0 as) [] s.heap [] ls [] :=
    ⟨hG, tys, ws, lv_args 0 av, hK, hP, hD, ⟨va_S.rf, [], by rw [List.append_nil]⟩, hh, zx_args_ok 0 ha, hlv, trivial⟩
  refine zx_ex_ok (xs := fun _ => 0) (d := 0) F zx_arrs zx_f0_ok zx_LK0 zx_Ts_good zx_nw_kind ⟨by decide, by decide⟩ hml (zx_TB_of zx_bt1) n (0, .iload_n 1, 1) _ ρ G h (zx_args 0 as) (0, 0) [] los s.heap [] ls [] (fun q => nomatch (show false = true from q)) (fun _ hy => hy) J hz ⟨fun o ho => ?_, fun q hq r2 H' locs' ls' kc' J' => ?_⟩
  · obtain ⟨q, h1, -⟩ := hall _ ho
    cases h1
  · obtain ⟨q', h1, h2, h3, h4⟩ := hall _ hq
    cases h1
    obtain ⟨hG', tys', ws', lc', b1, b2, b3, ⟨b4, b40⟩, b5, b6, b7, b8⟩ := J'
    rw [h3] at b8
    cases kc' with
    | cons _ _ => exact b8.elim
    | nil =>
      have hk1 : q.2.2.2.2.2.1 = 0 := by rw [h4]
      have hk2 : q.2.2.2.2.2.2 = 0 := by rw [h4]
      rw [hk1, hk2, h2]
      have hnx' : ∀ w ∈ zx_at0, w.before av.toArray s = true := vx_hat (fun w hw => hts w (zx_at_g w hw)) zx_at_x (fun w hw => va_Nw.use (zx_nx_on w hw) (hnx w hw))
      obtain ⟨d0, d3, d4, d6, d9⟩ := zx_d1
      exact zx_throw (own := "OperaHouse") (cls := "java/util/NoSuchElementException") (Z := "java/lang/RuntimeException") (text := "nothing such was wrong") (names := ["java/lang/Exception"]) (A := A) (sa := sa) hx hb hl hown (by decide) (by decide) (by decide)
        (hts _ (zx_w1t _ (by simp))) (hts _ (zx_w1t _ (by simp))) hstr hnx' zx_at_o hU hN b4 (by rw [b7.1, hml]) d0 d3 d4 d6 d9 (fun x hx => (hexc x hx).elim) (by decide) (by decide) (by decide) (by decide) hlocks
        (fun t hta hs hk => ⟨rfl, ⟨q, hq, r2, tys', ws', hG', va_K.moved hta b1, b2.kept (fun k z hz' => hk z.1 ((b2 k z hz').lt)), b3, b40, b5⟩, Nat.le_trans b4.1 hs, fun z k1 k2 => by rw [hk z (Nat.lt_of_lt_of_le k1 b4.1)]; exact b4.2.1 z k1 k2⟩)
        b4.2.2 (by decide) (by decide)
end ZXO
