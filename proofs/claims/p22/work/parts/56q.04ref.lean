noncomputable section
/-! zm: the reference's moves -/
def zm_b (m : Bool) : Int32 := if m = true then 1 else 0
def zm_cell (aM aY aZ : Nat) (ws : va_W) : Prop := ∃ fs, ws[218]? = some (aM, .inr (11, fs)) ∧ fs.length = 101 ∧ fs[80]? = some (.ref aY) ∧ fs[81]? = some (.ref aZ)
def zm_B (tys : List (ClassId × FieldType)) (ws : va_W) (pl a : Nat) (L : List Nat) : Prop := ∃ f, zj_row tys ws pl a 625 .boolean f ∧ ∀ x, x < 625 → f x = zm_b (L.contains x)
theorem zm_B_keep {tys : List (ClassId × FieldType)} {ws ws' : va_W} {pl a : Nat} {L : List Nat} (h : zm_B tys ws pl a L) (hk : ws'[pl]? = ws[pl]?) : zm_B tys ws' pl a L := by
  obtain ⟨f, h1, h2⟩ := h
  exact ⟨f, zm_row_keep h1 hk, h2⟩
theorem zm_cell_keep {aM aY aZ : Nat} {ws ws' : va_W} (h : zm_cell aM aY aZ ws) (hk : ws'[218]? = ws[218]?) : zm_cell aM aY aZ ws' := by
  obtain ⟨fs, h1, h2⟩ := h
  exact ⟨fs, hk.trans h1, h2⟩
theorem zm_b0 {m : Bool} (h : zm_b m = 0) : m = false := by
  cases m
  · rfl
  · exact absurd h (by decide)
theorem zm_b1 {m : Bool} (h : ¬ zm_b m = 0) : m = true := by
  cases m
  · exact absurd rfl h
  · rfl
theorem zm_cons {L : List Nat} {x y : Nat} : (y :: L).contains x = (decide (x = y) || L.contains x) := by
  rw [List.contains_cons]
  by_cases h : x = y
  · subst h
    simp
  · simp [h]
/-- a place of the row is set -/
theorem zm_B_put {tys : List (ClassId × FieldType)} {ws : va_W} {pl a y : Nat} {L : List Nat} {f : Nat → Int32} (hr : zj_row tys ws pl a 625 .boolean (upd f y 1)) (hf : ∀ x, x < 625 → f x = zm_b (L.contains x)) : zm_B tys ws pl a (y :: L) := by
  refine ⟨_, hr, fun x hx => ?_⟩
  rw [zm_cons]
  by_cases h : x = y
  · subst h
    simp [upd, zm_b]
  · have h2 : upd f y 1 x = f x := by simp [upd, h]
    rw [h2, hf x hx, decide_eq_false h, Bool.false_or]
theorem zm_placeR_W {l : Launch} {tys : List (ClassId × FieldType)} {ex : List Nat} {ws0 : va_W} {k s0 : Nat} (hk : k < 625) (hs : s0 < 4) : zj_W l 1 204 (zm_X ex tys [.int (nI k), .int (nI s0)] ws0) (fun _ _ _ v ws' => ws0 = ws' ∧ v = some (.int (nI (zm_pl k s0)))) := by
  refine zj_enterW (md := zx_m204) rfl rfl ?_ ?_
  · rintro ex tys av ws ⟨-, -, rfl, -⟩
    exact Nat.le_of_ble_eq_true rfl
  intro p e R s mi args below meth c Q D A ex nL own cc tys ws av hX C hnL KRi KRv KRa
  subst hnL
  obtain ⟨h1, h2, h3, h4⟩ := hX
  subst h1
  subst h2
  subst h3
  subst h4
  rcases (by omega : s0 = 0 ∨ s0 = 1 ∨ s0 = 2 ∨ s0 = 3) with rfl | rfl | rfl | rfl
  · skip
    refine zj_iload_n C (List.mem_of_getElem? (i := 0) rfl) rfl rfl rfl ?_
    refine zj_iload_n C (List.mem_of_getElem? (i := 1) rfl) rfl rfl rfl ?_
    refine zj_if_ne (tgt := 9) C (List.mem_of_getElem? (i := 2) rfl) rfl (by decide) (fun hbr => ?_) (fun hbr => ?_)
    · exact absurd hbr (by decide)
    refine zj_iconst (v := 1) C (List.mem_of_getElem? (i := 3) rfl) rfl (by decide) ?_
    refine zj_goto (tgt := 30) C (List.mem_of_getElem? (i := 4) rfl) (by decide) ?_
    refine zj_idiv (v := (nI (k / 1))) C (List.mem_of_getElem? (i := 16) rfl) rfl (by decide) (pk_div (d := 1) (by omega) (by decide) (by decide)) ?_
    refine zj_iconst (v := 5) C (List.mem_of_getElem? (i := 17) rfl) rfl (by decide) ?_
    refine zj_irem (v := (nI (k / 1 % 5))) C (List.mem_of_getElem? (i := 18) rfl) rfl (by decide) (pk_rem (d := 5) (Nat.lt_of_le_of_lt (Nat.div_le_self _ _) (by omega)) (by decide) (by decide)) ?_
    exact KRi 33 _ _ _ (List.mem_of_getElem? (i := 19) rfl) (by decide) (Or.inl rfl) rfl ⟨rfl, rfl⟩
  · skip
    refine zj_iload_n C (List.mem_of_getElem? (i := 0) rfl) rfl rfl rfl ?_
    refine zj_iload_n C (List.mem_of_getElem? (i := 1) rfl) rfl rfl rfl ?_
    refine zj_if_ne (tgt := 9) C (List.mem_of_getElem? (i := 2) rfl) rfl (by decide) (fun hbr => ?_) (fun hbr => ?_)
    rotate_left
    · exact absurd hbr (by decide)
    refine zj_iload_n C (List.mem_of_getElem? (i := 5) rfl) rfl rfl rfl ?_
    refine zj_iconst (v := 1) C (List.mem_of_getElem? (i := 6) rfl) rfl (by decide) ?_
    refine zj_icmp_ne (tgt := 18) C (List.mem_of_getElem? (i := 7) rfl) rfl (by decide) (fun hbr => ?_) (fun hbr => ?_)
    · exact absurd hbr (by decide)
    refine zj_iconst (v := 5) C (List.mem_of_getElem? (i := 8) rfl) rfl (by decide) ?_
    refine zj_goto (tgt := 30) C (List.mem_of_getElem? (i := 9) rfl) (by decide) ?_
    refine zj_idiv (v := (nI (k / 5))) C (List.mem_of_getElem? (i := 16) rfl) rfl (by decide) (pk_div (d := 5) (by omega) (by decide) (by decide)) ?_
    refine zj_iconst (v := 5) C (List.mem_of_getElem? (i := 17) rfl) rfl (by decide) ?_
    refine zj_irem (v := (nI (k / 5 % 5))) C (List.mem_of_getElem? (i := 18) rfl) rfl (by decide) (pk_rem (d := 5) (Nat.lt_of_le_of_lt (Nat.div_le_self _ _) (by omega)) (by decide) (by decide)) ?_
    exact KRi 33 _ _ _ (List.mem_of_getElem? (i := 19) rfl) (by decide) (Or.inl rfl) rfl ⟨rfl, rfl⟩
  · skip
    refine zj_iload_n C (List.mem_of_getElem? (i := 0) rfl) rfl rfl rfl ?_
    refine zj_iload_n C (List.mem_of_getElem? (i := 1) rfl) rfl rfl rfl ?_
    refine zj_if_ne (tgt := 9) C (List.mem_of_getElem? (i := 2) rfl) rfl (by decide) (fun hbr => ?_) (fun hbr => ?_)
    rotate_left
    · exact absurd hbr (by decide)
    refine zj_iload_n C (List.mem_of_getElem? (i := 5) rfl) rfl rfl rfl ?_
    refine zj_iconst (v := 1) C (List.mem_of_getElem? (i := 6) rfl) rfl (by decide) ?_
    refine zj_icmp_ne (tgt := 18) C (List.mem_of_getElem? (i := 7) rfl) rfl (by decide) (fun hbr => ?_) (fun hbr => ?_)
    rotate_left
    · exact absurd hbr (by decide)
    refine zj_iload_n C (List.mem_of_getElem? (i := 10) rfl) rfl rfl rfl ?_
    refine zj_iconst (v := 2) C (List.mem_of_getElem? (i := 11) rfl) rfl (by decide) ?_
    refine zj_icmp_ne (tgt := 28) C (List.mem_of_getElem? (i := 12) rfl) rfl (by decide) (fun hbr => ?_) (fun hbr => ?_)
    · exact absurd hbr (by decide)
    refine zj_bipush (v := 25) C (List.mem_of_getElem? (i := 13) rfl) rfl (by decide) ?_
    refine zj_goto (tgt := 30) C (List.mem_of_getElem? (i := 14) rfl) (by decide) ?_
    refine zj_idiv (v := (nI (k / 25))) C (List.mem_of_getElem? (i := 16) rfl) rfl (by decide) (pk_div (d := 25) (by omega) (by decide) (by decide)) ?_
    refine zj_iconst (v := 5) C (List.mem_of_getElem? (i := 17) rfl) rfl (by decide) ?_
    refine zj_irem (v := (nI (k / 25 % 5))) C (List.mem_of_getElem? (i := 18) rfl) rfl (by decide) (pk_rem (d := 5) (Nat.lt_of_le_of_lt (Nat.div_le_self _ _) (by omega)) (by decide) (by decide)) ?_
    exact KRi 33 _ _ _ (List.mem_of_getElem? (i := 19) rfl) (by decide) (Or.inl rfl) rfl ⟨rfl, rfl⟩
  · skip
    refine zj_iload_n C (List.mem_of_getElem? (i := 0) rfl) rfl rfl rfl ?_
    refine zj_iload_n C (List.mem_of_getElem? (i := 1) rfl) rfl rfl rfl ?_
    refine zj_if_ne (tgt := 9) C (List.mem_of_getElem? (i := 2) rfl) rfl (by decide) (fun hbr => ?_) (fun hbr => ?_)
    rotate_left
    · exact absurd hbr (by decide)
    refine zj_iload_n C (List.mem_of_getElem? (i := 5) rfl) rfl rfl rfl ?_
    refine zj_iconst (v := 1) C (List.mem_of_getElem? (i := 6) rfl) rfl (by decide) ?_
    refine zj_icmp_ne (tgt := 18) C (List.mem_of_getElem? (i := 7) rfl) rfl (by decide) (fun hbr => ?_) (fun hbr => ?_)
    rotate_left
    · exact absurd hbr (by decide)
    refine zj_iload_n C (List.mem_of_getElem? (i := 10) rfl) rfl rfl rfl ?_
    refine zj_iconst (v := 2) C (List.mem_of_getElem? (i := 11) rfl) rfl (by decide) ?_
    refine zj_icmp_ne (tgt := 28) C (List.mem_of_getElem? (i := 12) rfl) rfl (by decide) (fun hbr => ?_) (fun hbr => ?_)
    rotate_left
    · exact absurd hbr (by decide)
    refine zj_bipush (v := 125) C (List.mem_of_getElem? (i := 15) rfl) rfl (by decide) ?_
    refine zj_idiv (v := (nI (k / 125))) C (List.mem_of_getElem? (i := 16) rfl) rfl (by decide) (pk_div (d := 125) (by omega) (by decide) (by decide)) ?_
    refine zj_iconst (v := 5) C (List.mem_of_getElem? (i := 17) rfl) rfl (by decide) ?_
    refine zj_irem (v := (nI (k / 125 % 5))) C (List.mem_of_getElem? (i := 18) rfl) rfl (by decide) (pk_rem (d := 5) (Nat.lt_of_le_of_lt (Nat.div_le_self _ _) (by omega)) (by decide) (by decide)) ?_
    exact KRi 33 _ _ _ (List.mem_of_getElem? (i := 19) rfl) (by decide) (Or.inl rfl) rfl ⟨rfl, rfl⟩
theorem zm_next_W {l : Launch} {tys : List (ClassId × FieldType)} {ex : List Nat} {ws0 : va_W} {a b : Int32} : zj_W l 1 206 (zm_X ex tys [.int a, .int b] ws0) (fun _ _ _ v ws' => ws0 = ws' ∧ v = some (.int (zm_b (zm_an a.toInt b.toInt)))) := by
  refine zj_enterW (md := zx_m206) rfl rfl ?_ ?_
  · rintro ex tys av ws ⟨-, -, rfl, -⟩
    exact Nat.le_of_ble_eq_true rfl
  intro p e R s mi args below meth c Q D A ex nL own cc tys ws av hX C hnL KRi KRv KRa
  subst hnL
  obtain ⟨h1, h2, h3, h4⟩ := hX
  subst h1
  subst h2
  subst h3
  subst h4
  have e0 : (0 : Int32).toInt = 0 := rfl
  have e1 : (1 : Int32).toInt = 1 := rfl
  have e3 : (3 : Int32).toInt = 3 := rfl
  have e4 : (4 : Int32).toInt = 4 := rfl
  refine zj_iload_n C (List.mem_of_getElem? (i := 0) rfl) rfl rfl rfl ?_
  refine zj_iload_n C (List.mem_of_getElem? (i := 1) rfl) rfl rfl rfl ?_
  refine zj_icmp_ge (tgt := 9) C (List.mem_of_getElem? (i := 2) rfl) rfl (by decide) (fun hb1 => ?_) (fun hb1 => ?_)
  · have hb1 : b.toInt ≤ a.toInt := Int32.le_iff_toInt_le.mp hb1
    refine zj_iload_n C (List.mem_of_getElem? (i := 5) rfl) rfl rfl rfl ?_
    refine zj_istore_n C (List.mem_of_getElem? (i := 6) rfl) rfl rfl (by decide) rfl ?_
    refine zj_iload_n C (List.mem_of_getElem? (i := 7) rfl) rfl rfl rfl ?_
    refine zj_iload_n C (List.mem_of_getElem? (i := 8) rfl) rfl rfl rfl ?_
    refine zj_icmp_ge (tgt := 20) C (List.mem_of_getElem? (i := 9) rfl) rfl (by decide) (fun hb2 => ?_) (fun hb2 => ?_)
    · have hb2 : b.toInt ≤ a.toInt := Int32.le_iff_toInt_le.mp hb2
      refine zj_iload_n C (List.mem_of_getElem? (i := 12) rfl) rfl rfl rfl ?_
      refine zj_istore_n C (List.mem_of_getElem? (i := 13) rfl) rfl rfl (by decide) rfl ?_
      refine zj_iload_n C (List.mem_of_getElem? (i := 14) rfl) rfl rfl rfl ?_
      refine zj_if_ne (tgt := 31) C (List.mem_of_getElem? (i := 15) rfl) rfl (by decide) (fun hb3 => ?_) (fun hb3 => ?_)
      · have hb3 : ¬ b.toInt = (0 : Int32).toInt := fun h => hb3 (Int32.toInt_inj.mp h)
        refine zj_iload_n C (List.mem_of_getElem? (i := 19) rfl) rfl rfl rfl ?_
        refine zj_iconst (v := 4) C (List.mem_of_getElem? (i := 20) rfl) rfl (by decide) ?_
        refine zj_icmp_ne (tgt := 50) C (List.mem_of_getElem? (i := 21) rfl) rfl (by decide) (fun hb4 => ?_) (fun hb4 => ?_)
        · have hb4 : ¬ a.toInt = (4 : Int32).toInt := fun h => hb4 (Int32.toInt_inj.mp h)
          refine zj_iconst (v := 0) C (List.mem_of_getElem? (i := 30) rfl) rfl (by decide) ?_
          have hz : zm_an a.toInt b.toInt = false := by
            rw [Bool.eq_false_iff]
            intro hz
            unfold zm_an at hz
            simp only [Bool.or_eq_true, Bool.and_eq_true, decide_eq_true_iff] at hz
            by_cases hab : a.toInt < b.toInt
            · rw [if_pos hab, if_pos hab] at hz
              omega
            · rw [if_neg hab, if_neg hab] at hz
              omega
          exact KRi 51 _ _ _ (List.mem_of_getElem? (i := 31) rfl) (by decide) (by first | exact Or.inr ⟨rfl, Or.inl rfl⟩ | exact Or.inr ⟨rfl, Or.inr rfl⟩) rfl ⟨rfl, by rw [hz]; rfl⟩
        · have hb4 : a.toInt = (4 : Int32).toInt := congrArg Int32.toInt hb4
          refine zj_iload_n C (List.mem_of_getElem? (i := 22) rfl) rfl rfl rfl ?_
          refine zj_iconst (v := 1) C (List.mem_of_getElem? (i := 23) rfl) rfl (by decide) ?_
          refine zj_icmp_eq (tgt := 46) C (List.mem_of_getElem? (i := 24) rfl) rfl (by decide) (fun hb5 => ?_) (fun hb5 => ?_)
          · have hb5 : b.toInt = (1 : Int32).toInt := congrArg Int32.toInt hb5
            refine zj_iconst (v := 1) C (List.mem_of_getElem? (i := 28) rfl) rfl (by decide) ?_
            refine zj_goto (tgt := 51) C (List.mem_of_getElem? (i := 29) rfl) (by decide) ?_
            have hz : zm_an a.toInt b.toInt = true := by
              unfold zm_an
              simp only [Bool.or_eq_true, Bool.and_eq_true, decide_eq_true_iff]
              by_cases hab : a.toInt < b.toInt
              · rw [if_pos hab, if_pos hab]
                omega
              · rw [if_neg hab, if_neg hab]
                omega
            exact KRi 51 _ _ _ (List.mem_of_getElem? (i := 31) rfl) (by decide) (by first | exact Or.inr ⟨rfl, Or.inl rfl⟩ | exact Or.inr ⟨rfl, Or.inr rfl⟩) rfl ⟨rfl, by rw [hz]; rfl⟩
          · have hb5 : ¬ b.toInt = (1 : Int32).toInt := fun h => hb5 (Int32.toInt_inj.mp h)
            refine zj_iload_n C (List.mem_of_getElem? (i := 25) rfl) rfl rfl rfl ?_
            refine zj_iconst (v := 3) C (List.mem_of_getElem? (i := 26) rfl) rfl (by decide) ?_
            refine zj_icmp_ne (tgt := 50) C (List.mem_of_getElem? (i := 27) rfl) rfl (by decide) (fun hb6 => ?_) (fun hb6 => ?_)
            · have hb6 : ¬ b.toInt = (3 : Int32).toInt := fun h => hb6 (Int32.toInt_inj.mp h)
              refine zj_iconst (v := 0) C (List.mem_of_getElem? (i := 30) rfl) rfl (by decide) ?_
              have hz : zm_an a.toInt b.toInt = false := by
                rw [Bool.eq_false_iff]
                intro hz
                unfold zm_an at hz
                simp only [Bool.or_eq_true, Bool.and_eq_true, decide_eq_true_iff] at hz
                by_cases hab : a.toInt < b.toInt
                · rw [if_pos hab, if_pos hab] at hz
                  omega
                · rw [if_neg hab, if_neg hab] at hz
                  omega
              exact KRi 51 _ _ _ (List.mem_of_getElem? (i := 31) rfl) (by decide) (by first | exact Or.inr ⟨rfl, Or.inl rfl⟩ | exact Or.inr ⟨rfl, Or.inr rfl⟩) rfl ⟨rfl, by rw [hz]; rfl⟩
            · have hb6 : b.toInt = (3 : Int32).toInt := congrArg Int32.toInt hb6
              refine zj_iconst (v := 1) C (List.mem_of_getElem? (i := 28) rfl) rfl (by decide) ?_
              refine zj_goto (tgt := 51) C (List.mem_of_getElem? (i := 29) rfl) (by decide) ?_
              have hz : zm_an a.toInt b.toInt = true := by
                unfold zm_an
                simp only [Bool.or_eq_true, Bool.and_eq_true, decide_eq_true_iff]
                by_cases hab : a.toInt < b.toInt
                · rw [if_pos hab, if_pos hab]
                  omega
                · rw [if_neg hab, if_neg hab]
                  omega
              exact KRi 51 _ _ _ (List.mem_of_getElem? (i := 31) rfl) (by decide) (by first | exact Or.inr ⟨rfl, Or.inl rfl⟩ | exact Or.inr ⟨rfl, Or.inr rfl⟩) rfl ⟨rfl, by rw [hz]; rfl⟩
      · have hb3 : b.toInt = (0 : Int32).toInt := congrArg Int32.toInt hb3
        refine zj_iload_n C (List.mem_of_getElem? (i := 16) rfl) rfl rfl rfl ?_
        refine zj_iconst (v := 4) C (List.mem_of_getElem? (i := 17) rfl) rfl (by decide) ?_
        refine zj_icmp_lt (tgt := 46) C (List.mem_of_getElem? (i := 18) rfl) rfl (by decide) (fun hb7 => ?_) (fun hb7 => ?_)
        · have hb7 : a.toInt < (4 : Int32).toInt := Int32.lt_iff_toInt_lt.mp hb7
          refine zj_iconst (v := 1) C (List.mem_of_getElem? (i := 28) rfl) rfl (by decide) ?_
          refine zj_goto (tgt := 51) C (List.mem_of_getElem? (i := 29) rfl) (by decide) ?_
          have hz : zm_an a.toInt b.toInt = true := by
            unfold zm_an
            simp only [Bool.or_eq_true, Bool.and_eq_true, decide_eq_true_iff]
            by_cases hab : a.toInt < b.toInt
            · rw [if_pos hab, if_pos hab]
              omega
            · rw [if_neg hab, if_neg hab]
              omega
          exact KRi 51 _ _ _ (List.mem_of_getElem? (i := 31) rfl) (by decide) (by first | exact Or.inr ⟨rfl, Or.inl rfl⟩ | exact Or.inr ⟨rfl, Or.inr rfl⟩) rfl ⟨rfl, by rw [hz]; rfl⟩
        · have hb7 : ¬ a.toInt < (4 : Int32).toInt := fun h => hb7 (Int32.lt_iff_toInt_lt.mpr h)
          refine zj_iload_n C (List.mem_of_getElem? (i := 19) rfl) rfl rfl rfl ?_
          refine zj_iconst (v := 4) C (List.mem_of_getElem? (i := 20) rfl) rfl (by decide) ?_
          refine zj_icmp_ne (tgt := 50) C (List.mem_of_getElem? (i := 21) rfl) rfl (by decide) (fun hb8 => ?_) (fun hb8 => ?_)
          · have hb8 : ¬ a.toInt = (4 : Int32).toInt := fun h => hb8 (Int32.toInt_inj.mp h)
            refine zj_iconst (v := 0) C (List.mem_of_getElem? (i := 30) rfl) rfl (by decide) ?_
            have hz : zm_an a.toInt b.toInt = false := by
              rw [Bool.eq_false_iff]
              intro hz
              unfold zm_an at hz
              simp only [Bool.or_eq_true, Bool.and_eq_true, decide_eq_true_iff] at hz
              by_cases hab : a.toInt < b.toInt
              · rw [if_pos hab, if_pos hab] at hz
                omega
              · rw [if_neg hab, if_neg hab] at hz
                omega
            exact KRi 51 _ _ _ (List.mem_of_getElem? (i := 31) rfl) (by decide) (by first | exact Or.inr ⟨rfl, Or.inl rfl⟩ | exact Or.inr ⟨rfl, Or.inr rfl⟩) rfl ⟨rfl, by rw [hz]; rfl⟩
          · have hb8 : a.toInt = (4 : Int32).toInt := congrArg Int32.toInt hb8
            refine zj_iload_n C (List.mem_of_getElem? (i := 22) rfl) rfl rfl rfl ?_
            refine zj_iconst (v := 1) C (List.mem_of_getElem? (i := 23) rfl) rfl (by decide) ?_
            refine zj_icmp_eq (tgt := 46) C (List.mem_of_getElem? (i := 24) rfl) rfl (by decide) (fun hb9 => ?_) (fun hb9 => ?_)
            · have hb9 : b.toInt = (1 : Int32).toInt := congrArg Int32.toInt hb9
              refine zj_iconst (v := 1) C (List.mem_of_getElem? (i := 28) rfl) rfl (by decide) ?_
              refine zj_goto (tgt := 51) C (List.mem_of_getElem? (i := 29) rfl) (by decide) ?_
              have hz : zm_an a.toInt b.toInt = true := by
                unfold zm_an
                simp only [Bool.or_eq_true, Bool.and_eq_true, decide_eq_true_iff]
                by_cases hab : a.toInt < b.toInt
                · rw [if_pos hab, if_pos hab]
                  omega
                · rw [if_neg hab, if_neg hab]
                  omega
              exact KRi 51 _ _ _ (List.mem_of_getElem? (i := 31) rfl) (by decide) (by first | exact Or.inr ⟨rfl, Or.inl rfl⟩ | exact Or.inr ⟨rfl, Or.inr rfl⟩) rfl ⟨rfl, by rw [hz]; rfl⟩
            · have hb9 : ¬ b.toInt = (1 : Int32).toInt := fun h => hb9 (Int32.toInt_inj.mp h)
              refine zj_iload_n C (List.mem_of_getElem? (i := 25) rfl) rfl rfl rfl ?_
              refine zj_iconst (v := 3) C (List.mem_of_getElem? (i := 26) rfl) rfl (by decide) ?_
              refine zj_icmp_ne (tgt := 50) C (List.mem_of_getElem? (i := 27) rfl) rfl (by decide) (fun hb10 => ?_) (fun hb10 => ?_)
              · have hb10 : ¬ b.toInt = (3 : Int32).toInt := fun h => hb10 (Int32.toInt_inj.mp h)
                refine zj_iconst (v := 0) C (List.mem_of_getElem? (i := 30) rfl) rfl (by decide) ?_
                have hz : zm_an a.toInt b.toInt = false := by
                  rw [Bool.eq_false_iff]
                  intro hz
                  unfold zm_an at hz
                  simp only [Bool.or_eq_true, Bool.and_eq_true, decide_eq_true_iff] at hz
                  by_cases hab : a.toInt < b.toInt
                  · rw [if_pos hab, if_pos hab] at hz
                    omega
                  · rw [if_neg hab, if_neg hab] at hz
                    omega
                exact KRi 51 _ _ _ (List.mem_of_getElem? (i := 31) rfl) (by decide) (by first | exact Or.inr ⟨rfl, Or.inl rfl⟩ | exact Or.inr ⟨rfl, Or.inr rfl⟩) rfl ⟨rfl, by rw [hz]; rfl⟩
              · have hb10 : b.toInt = (3 : Int32).toInt := congrArg Int32.toInt hb10
                refine zj_iconst (v := 1) C (List.mem_of_getElem? (i := 28) rfl) rfl (by decide) ?_
                refine zj_goto (tgt := 51) C (List.mem_of_getElem? (i := 29) rfl) (by decide) ?_
                have hz : zm_an a.toInt b.toInt = true := by
                  unfold zm_an
                  simp only [Bool.or_eq_true, Bool.and_eq_true, decide_eq_true_iff]
                  by_cases hab : a.toInt < b.toInt
                  · rw [if_pos hab, if_pos hab]
                    omega
                  · rw [if_neg hab, if_neg hab]
                    omega
                exact KRi 51 _ _ _ (List.mem_of_getElem? (i := 31) rfl) (by decide) (by first | exact Or.inr ⟨rfl, Or.inl rfl⟩ | exact Or.inr ⟨rfl, Or.inr rfl⟩) rfl ⟨rfl, by rw [hz]; rfl⟩
    · have hb2 : ¬ b.toInt ≤ a.toInt := fun h => hb2 (Int32.le_iff_toInt_le.mpr h)
      refine zj_iload_n C (List.mem_of_getElem? (i := 10) rfl) rfl rfl rfl ?_
      refine zj_goto (tgt := 21) C (List.mem_of_getElem? (i := 11) rfl) (by decide) ?_
      refine zj_istore_n C (List.mem_of_getElem? (i := 13) rfl) rfl rfl (by decide) rfl ?_
      refine zj_iload_n C (List.mem_of_getElem? (i := 14) rfl) rfl rfl rfl ?_
      refine zj_if_ne (tgt := 31) C (List.mem_of_getElem? (i := 15) rfl) rfl (by decide) (fun hb11 => ?_) (fun hb11 => ?_)
      · have hb11 : ¬ b.toInt = (0 : Int32).toInt := fun h => hb11 (Int32.toInt_inj.mp h)
        refine zj_iload_n C (List.mem_of_getElem? (i := 19) rfl) rfl rfl rfl ?_
        refine zj_iconst (v := 4) C (List.mem_of_getElem? (i := 20) rfl) rfl (by decide) ?_
        refine zj_icmp_ne (tgt := 50) C (List.mem_of_getElem? (i := 21) rfl) rfl (by decide) (fun hb12 => ?_) (fun hb12 => ?_)
        · have hb12 : ¬ b.toInt = (4 : Int32).toInt := fun h => hb12 (Int32.toInt_inj.mp h)
          refine zj_iconst (v := 0) C (List.mem_of_getElem? (i := 30) rfl) rfl (by decide) ?_
          have hz : zm_an a.toInt b.toInt = false := by
            rw [Bool.eq_false_iff]
            intro hz
            unfold zm_an at hz
            simp only [Bool.or_eq_true, Bool.and_eq_true, decide_eq_true_iff] at hz
            by_cases hab : a.toInt < b.toInt
            · rw [if_pos hab, if_pos hab] at hz
              omega
            · rw [if_neg hab, if_neg hab] at hz
              omega
          exact KRi 51 _ _ _ (List.mem_of_getElem? (i := 31) rfl) (by decide) (by first | exact Or.inr ⟨rfl, Or.inl rfl⟩ | exact Or.inr ⟨rfl, Or.inr rfl⟩) rfl ⟨rfl, by rw [hz]; rfl⟩
        · have hb12 : b.toInt = (4 : Int32).toInt := congrArg Int32.toInt hb12
          refine zj_iload_n C (List.mem_of_getElem? (i := 22) rfl) rfl rfl rfl ?_
          refine zj_iconst (v := 1) C (List.mem_of_getElem? (i := 23) rfl) rfl (by decide) ?_
          refine zj_icmp_eq (tgt := 46) C (List.mem_of_getElem? (i := 24) rfl) rfl (by decide) (fun hb13 => ?_) (fun hb13 => ?_)
          · have hb13 : b.toInt = (1 : Int32).toInt := congrArg Int32.toInt hb13
            refine zj_iconst (v := 1) C (List.mem_of_getElem? (i := 28) rfl) rfl (by decide) ?_
            refine zj_goto (tgt := 51) C (List.mem_of_getElem? (i := 29) rfl) (by decide) ?_
            have hz : zm_an a.toInt b.toInt = true := by
              unfold zm_an
              simp only [Bool.or_eq_true, Bool.and_eq_true, decide_eq_true_iff]
              by_cases hab : a.toInt < b.toInt
              · rw [if_pos hab, if_pos hab]
                omega
              · rw [if_neg hab, if_neg hab]
                omega
            exact KRi 51 _ _ _ (List.mem_of_getElem? (i := 31) rfl) (by decide) (by first | exact Or.inr ⟨rfl, Or.inl rfl⟩ | exact Or.inr ⟨rfl, Or.inr rfl⟩) rfl ⟨rfl, by rw [hz]; rfl⟩
          · have hb13 : ¬ b.toInt = (1 : Int32).toInt := fun h => hb13 (Int32.toInt_inj.mp h)
            refine zj_iload_n C (List.mem_of_getElem? (i := 25) rfl) rfl rfl rfl ?_
            refine zj_iconst (v := 3) C (List.mem_of_getElem? (i := 26) rfl) rfl (by decide) ?_
            refine zj_icmp_ne (tgt := 50) C (List.mem_of_getElem? (i := 27) rfl) rfl (by decide) (fun hb14 => ?_) (fun hb14 => ?_)
            · have hb14 : ¬ b.toInt = (3 : Int32).toInt := fun h => hb14 (Int32.toInt_inj.mp h)
              refine zj_iconst (v := 0) C (List.mem_of_getElem? (i := 30) rfl) rfl (by decide) ?_
              have hz : zm_an a.toInt b.toInt = false := by
                rw [Bool.eq_false_iff]
                intro hz
                unfold zm_an at hz
                simp only [Bool.or_eq_true, Bool.and_eq_true, decide_eq_true_iff] at hz
                by_cases hab : a.toInt < b.toInt
                · rw [if_pos hab, if_pos hab] at hz
                  omega
                · rw [if_neg hab, if_neg hab] at hz
                  omega
              exact KRi 51 _ _ _ (List.mem_of_getElem? (i := 31) rfl) (by decide) (by first | exact Or.inr ⟨rfl, Or.inl rfl⟩ | exact Or.inr ⟨rfl, Or.inr rfl⟩) rfl ⟨rfl, by rw [hz]; rfl⟩
            · have hb14 : b.toInt = (3 : Int32).toInt := congrArg Int32.toInt hb14
              refine zj_iconst (v := 1) C (List.mem_of_getElem? (i := 28) rfl) rfl (by decide) ?_
              refine zj_goto (tgt := 51) C (List.mem_of_getElem? (i := 29) rfl) (by decide) ?_
              have hz : zm_an a.toInt b.toInt = true := by
                unfold zm_an
                simp only [Bool.or_eq_true, Bool.and_eq_true, decide_eq_true_iff]
                by_cases hab : a.toInt < b.toInt
                · rw [if_pos hab, if_pos hab]
                  omega
                · rw [if_neg hab, if_neg hab]
                  omega
              exact KRi 51 _ _ _ (List.mem_of_getElem? (i := 31) rfl) (by decide) (by first | exact Or.inr ⟨rfl, Or.inl rfl⟩ | exact Or.inr ⟨rfl, Or.inr rfl⟩) rfl ⟨rfl, by rw [hz]; rfl⟩
      · have hb11 : b.toInt = (0 : Int32).toInt := congrArg Int32.toInt hb11
        refine zj_iload_n C (List.mem_of_getElem? (i := 16) rfl) rfl rfl rfl ?_
        refine zj_iconst (v := 4) C (List.mem_of_getElem? (i := 17) rfl) rfl (by decide) ?_
        refine zj_icmp_lt (tgt := 46) C (List.mem_of_getElem? (i := 18) rfl) rfl (by decide) (fun hb15 => ?_) (fun hb15 => ?_)
        · have hb15 : b.toInt < (4 : Int32).toInt := Int32.lt_iff_toInt_lt.mp hb15
          refine zj_iconst (v := 1) C (List.mem_of_getElem? (i := 28) rfl) rfl (by decide) ?_
          refine zj_goto (tgt := 51) C (List.mem_of_getElem? (i := 29) rfl) (by decide) ?_
          have hz : zm_an a.toInt b.toInt = true := by
            unfold zm_an
            simp only [Bool.or_eq_true, Bool.and_eq_true, decide_eq_true_iff]
            by_cases hab : a.toInt < b.toInt
            · rw [if_pos hab, if_pos hab]
              omega
            · rw [if_neg hab, if_neg hab]
              omega
          exact KRi 51 _ _ _ (List.mem_of_getElem? (i := 31) rfl) (by decide) (by first | exact Or.inr ⟨rfl, Or.inl rfl⟩ | exact Or.inr ⟨rfl, Or.inr rfl⟩) rfl ⟨rfl, by rw [hz]; rfl⟩
        · have hb15 : ¬ b.toInt < (4 : Int32).toInt := fun h => hb15 (Int32.lt_iff_toInt_lt.mpr h)
          refine zj_iload_n C (List.mem_of_getElem? (i := 19) rfl) rfl rfl rfl ?_
          refine zj_iconst (v := 4) C (List.mem_of_getElem? (i := 20) rfl) rfl (by decide) ?_
          refine zj_icmp_ne (tgt := 50) C (List.mem_of_getElem? (i := 21) rfl) rfl (by decide) (fun hb16 => ?_) (fun hb16 => ?_)
          · have hb16 : ¬ b.toInt = (4 : Int32).toInt := fun h => hb16 (Int32.toInt_inj.mp h)
            refine zj_iconst (v := 0) C (List.mem_of_getElem? (i := 30) rfl) rfl (by decide) ?_
            have hz : zm_an a.toInt b.toInt = false := by
              rw [Bool.eq_false_iff]
              intro hz
              unfold zm_an at hz
              simp only [Bool.or_eq_true, Bool.and_eq_true, decide_eq_true_iff] at hz
              by_cases hab : a.toInt < b.toInt
              · rw [if_pos hab, if_pos hab] at hz
                omega
              · rw [if_neg hab, if_neg hab] at hz
                omega
            exact KRi 51 _ _ _ (List.mem_of_getElem? (i := 31) rfl) (by decide) (by first | exact Or.inr ⟨rfl, Or.inl rfl⟩ | exact Or.inr ⟨rfl, Or.inr rfl⟩) rfl ⟨rfl, by rw [hz]; rfl⟩
          · have hb16 : b.toInt = (4 : Int32).toInt := congrArg Int32.toInt hb16
            refine zj_iload_n C (List.mem_of_getElem? (i := 22) rfl) rfl rfl rfl ?_
            refine zj_iconst (v := 1) C (List.mem_of_getElem? (i := 23) rfl) rfl (by decide) ?_
            refine zj_icmp_eq (tgt := 46) C (List.mem_of_getElem? (i := 24) rfl) rfl (by decide) (fun hb17 => ?_) (fun hb17 => ?_)
            · have hb17 : b.toInt = (1 : Int32).toInt := congrArg Int32.toInt hb17
              refine zj_iconst (v := 1) C (List.mem_of_getElem? (i := 28) rfl) rfl (by decide) ?_
              refine zj_goto (tgt := 51) C (List.mem_of_getElem? (i := 29) rfl) (by decide) ?_
              have hz : zm_an a.toInt b.toInt = true := by
                unfold zm_an
                simp only [Bool.or_eq_true, Bool.and_eq_true, decide_eq_true_iff]
                by_cases hab : a.toInt < b.toInt
                · rw [if_pos hab, if_pos hab]
                  omega
                · rw [if_neg hab, if_neg hab]
                  omega
              exact KRi 51 _ _ _ (List.mem_of_getElem? (i := 31) rfl) (by decide) (by first | exact Or.inr ⟨rfl, Or.inl rfl⟩ | exact Or.inr ⟨rfl, Or.inr rfl⟩) rfl ⟨rfl, by rw [hz]; rfl⟩
            · have hb17 : ¬ b.toInt = (1 : Int32).toInt := fun h => hb17 (Int32.toInt_inj.mp h)
              refine zj_iload_n C (List.mem_of_getElem? (i := 25) rfl) rfl rfl rfl ?_
              refine zj_iconst (v := 3) C (List.mem_of_getElem? (i := 26) rfl) rfl (by decide) ?_
              refine zj_icmp_ne (tgt := 50) C (List.mem_of_getElem? (i := 27) rfl) rfl (by decide) (fun hb18 => ?_) (fun hb18 => ?_)
              · have hb18 : ¬ b.toInt = (3 : Int32).toInt := fun h => hb18 (Int32.toInt_inj.mp h)
                refine zj_iconst (v := 0) C (List.mem_of_getElem? (i := 30) rfl) rfl (by decide) ?_
                have hz : zm_an a.toInt b.toInt = false := by
                  rw [Bool.eq_false_iff]
                  intro hz
                  unfold zm_an at hz
                  simp only [Bool.or_eq_true, Bool.and_eq_true, decide_eq_true_iff] at hz
                  by_cases hab : a.toInt < b.toInt
                  · rw [if_pos hab, if_pos hab] at hz
                    omega
                  · rw [if_neg hab, if_neg hab] at hz
                    omega
                exact KRi 51 _ _ _ (List.mem_of_getElem? (i := 31) rfl) (by decide) (by first | exact Or.inr ⟨rfl, Or.inl rfl⟩ | exact Or.inr ⟨rfl, Or.inr rfl⟩) rfl ⟨rfl, by rw [hz]; rfl⟩
              · have hb18 : b.toInt = (3 : Int32).toInt := congrArg Int32.toInt hb18
                refine zj_iconst (v := 1) C (List.mem_of_getElem? (i := 28) rfl) rfl (by decide) ?_
                refine zj_goto (tgt := 51) C (List.mem_of_getElem? (i := 29) rfl) (by decide) ?_
                have hz : zm_an a.toInt b.toInt = true := by
                  unfold zm_an
                  simp only [Bool.or_eq_true, Bool.and_eq_true, decide_eq_true_iff]
                  by_cases hab : a.toInt < b.toInt
                  · rw [if_pos hab, if_pos hab]
                    omega
                  · rw [if_neg hab, if_neg hab]
                    omega
                exact KRi 51 _ _ _ (List.mem_of_getElem? (i := 31) rfl) (by decide) (by first | exact Or.inr ⟨rfl, Or.inl rfl⟩ | exact Or.inr ⟨rfl, Or.inr rfl⟩) rfl ⟨rfl, by rw [hz]; rfl⟩
  · have hb1 : ¬ b.toInt ≤ a.toInt := fun h => hb1 (Int32.le_iff_toInt_le.mpr h)
    refine zj_iload_n C (List.mem_of_getElem? (i := 3) rfl) rfl rfl rfl ?_
    refine zj_goto (tgt := 10) C (List.mem_of_getElem? (i := 4) rfl) (by decide) ?_
    refine zj_istore_n C (List.mem_of_getElem? (i := 6) rfl) rfl rfl (by decide) rfl ?_
    refine zj_iload_n C (List.mem_of_getElem? (i := 7) rfl) rfl rfl rfl ?_
    refine zj_iload_n C (List.mem_of_getElem? (i := 8) rfl) rfl rfl rfl ?_
    refine zj_icmp_ge (tgt := 20) C (List.mem_of_getElem? (i := 9) rfl) rfl (by decide) (fun hb19 => ?_) (fun hb19 => ?_)
    · have hb19 : b.toInt ≤ a.toInt := Int32.le_iff_toInt_le.mp hb19
      refine zj_iload_n C (List.mem_of_getElem? (i := 12) rfl) rfl rfl rfl ?_
      refine zj_istore_n C (List.mem_of_getElem? (i := 13) rfl) rfl rfl (by decide) rfl ?_
      refine zj_iload_n C (List.mem_of_getElem? (i := 14) rfl) rfl rfl rfl ?_
      refine zj_if_ne (tgt := 31) C (List.mem_of_getElem? (i := 15) rfl) rfl (by decide) (fun hb20 => ?_) (fun hb20 => ?_)
      · have hb20 : ¬ a.toInt = (0 : Int32).toInt := fun h => hb20 (Int32.toInt_inj.mp h)
        refine zj_iload_n C (List.mem_of_getElem? (i := 19) rfl) rfl rfl rfl ?_
        refine zj_iconst (v := 4) C (List.mem_of_getElem? (i := 20) rfl) rfl (by decide) ?_
        refine zj_icmp_ne (tgt := 50) C (List.mem_of_getElem? (i := 21) rfl) rfl (by decide) (fun hb21 => ?_) (fun hb21 => ?_)
        · have hb21 : ¬ a.toInt = (4 : Int32).toInt := fun h => hb21 (Int32.toInt_inj.mp h)
          refine zj_iconst (v := 0) C (List.mem_of_getElem? (i := 30) rfl) rfl (by decide) ?_
          have hz : zm_an a.toInt b.toInt = false := by
            rw [Bool.eq_false_iff]
            intro hz
            unfold zm_an at hz
            simp only [Bool.or_eq_true, Bool.and_eq_true, decide_eq_true_iff] at hz
            by_cases hab : a.toInt < b.toInt
            · rw [if_pos hab, if_pos hab] at hz
              omega
            · rw [if_neg hab, if_neg hab] at hz
              omega
          exact KRi 51 _ _ _ (List.mem_of_getElem? (i := 31) rfl) (by decide) (by first | exact Or.inr ⟨rfl, Or.inl rfl⟩ | exact Or.inr ⟨rfl, Or.inr rfl⟩) rfl ⟨rfl, by rw [hz]; rfl⟩
        · have hb21 : a.toInt = (4 : Int32).toInt := congrArg Int32.toInt hb21
          refine zj_iload_n C (List.mem_of_getElem? (i := 22) rfl) rfl rfl rfl ?_
          refine zj_iconst (v := 1) C (List.mem_of_getElem? (i := 23) rfl) rfl (by decide) ?_
          refine zj_icmp_eq (tgt := 46) C (List.mem_of_getElem? (i := 24) rfl) rfl (by decide) (fun hb22 => ?_) (fun hb22 => ?_)
          · have hb22 : a.toInt = (1 : Int32).toInt := congrArg Int32.toInt hb22
            refine zj_iconst (v := 1) C (List.mem_of_getElem? (i := 28) rfl) rfl (by decide) ?_
            refine zj_goto (tgt := 51) C (List.mem_of_getElem? (i := 29) rfl) (by decide) ?_
            have hz : zm_an a.toInt b.toInt = true := by
              unfold zm_an
              simp only [Bool.or_eq_true, Bool.and_eq_true, decide_eq_true_iff]
              by_cases hab : a.toInt < b.toInt
              · rw [if_pos hab, if_pos hab]
                omega
              · rw [if_neg hab, if_neg hab]
                omega
            exact KRi 51 _ _ _ (List.mem_of_getElem? (i := 31) rfl) (by decide) (by first | exact Or.inr ⟨rfl, Or.inl rfl⟩ | exact Or.inr ⟨rfl, Or.inr rfl⟩) rfl ⟨rfl, by rw [hz]; rfl⟩
          · have hb22 : ¬ a.toInt = (1 : Int32).toInt := fun h => hb22 (Int32.toInt_inj.mp h)
            refine zj_iload_n C (List.mem_of_getElem? (i := 25) rfl) rfl rfl rfl ?_
            refine zj_iconst (v := 3) C (List.mem_of_getElem? (i := 26) rfl) rfl (by decide) ?_
            refine zj_icmp_ne (tgt := 50) C (List.mem_of_getElem? (i := 27) rfl) rfl (by decide) (fun hb23 => ?_) (fun hb23 => ?_)
            · have hb23 : ¬ a.toInt = (3 : Int32).toInt := fun h => hb23 (Int32.toInt_inj.mp h)
              refine zj_iconst (v := 0) C (List.mem_of_getElem? (i := 30) rfl) rfl (by decide) ?_
              have hz : zm_an a.toInt b.toInt = false := by
                rw [Bool.eq_false_iff]
                intro hz
                unfold zm_an at hz
                simp only [Bool.or_eq_true, Bool.and_eq_true, decide_eq_true_iff] at hz
                by_cases hab : a.toInt < b.toInt
                · rw [if_pos hab, if_pos hab] at hz
                  omega
                · rw [if_neg hab, if_neg hab] at hz
                  omega
              exact KRi 51 _ _ _ (List.mem_of_getElem? (i := 31) rfl) (by decide) (by first | exact Or.inr ⟨rfl, Or.inl rfl⟩ | exact Or.inr ⟨rfl, Or.inr rfl⟩) rfl ⟨rfl, by rw [hz]; rfl⟩
            · have hb23 : a.toInt = (3 : Int32).toInt := congrArg Int32.toInt hb23
              refine zj_iconst (v := 1) C (List.mem_of_getElem? (i := 28) rfl) rfl (by decide) ?_
              refine zj_goto (tgt := 51) C (List.mem_of_getElem? (i := 29) rfl) (by decide) ?_
              have hz : zm_an a.toInt b.toInt = true := by
                unfold zm_an
                simp only [Bool.or_eq_true, Bool.and_eq_true, decide_eq_true_iff]
                by_cases hab : a.toInt < b.toInt
                · rw [if_pos hab, if_pos hab]
                  omega
                · rw [if_neg hab, if_neg hab]
                  omega
              exact KRi 51 _ _ _ (List.mem_of_getElem? (i := 31) rfl) (by decide) (by first | exact Or.inr ⟨rfl, Or.inl rfl⟩ | exact Or.inr ⟨rfl, Or.inr rfl⟩) rfl ⟨rfl, by rw [hz]; rfl⟩
      · have hb20 : a.toInt = (0 : Int32).toInt := congrArg Int32.toInt hb20
        refine zj_iload_n C (List.mem_of_getElem? (i := 16) rfl) rfl rfl rfl ?_
        refine zj_iconst (v := 4) C (List.mem_of_getElem? (i := 17) rfl) rfl (by decide) ?_
        refine zj_icmp_lt (tgt := 46) C (List.mem_of_getElem? (i := 18) rfl) rfl (by decide) (fun hb24 => ?_) (fun hb24 => ?_)
        · have hb24 : a.toInt < (4 : Int32).toInt := Int32.lt_iff_toInt_lt.mp hb24
          refine zj_iconst (v := 1) C (List.mem_of_getElem? (i := 28) rfl) rfl (by decide) ?_
          refine zj_goto (tgt := 51) C (List.mem_of_getElem? (i := 29) rfl) (by decide) ?_
          have hz : zm_an a.toInt b.toInt = true := by
            unfold zm_an
            simp only [Bool.or_eq_true, Bool.and_eq_true, decide_eq_true_iff]
            by_cases hab : a.toInt < b.toInt
            · rw [if_pos hab, if_pos hab]
              omega
            · rw [if_neg hab, if_neg hab]
              omega
          exact KRi 51 _ _ _ (List.mem_of_getElem? (i := 31) rfl) (by decide) (by first | exact Or.inr ⟨rfl, Or.inl rfl⟩ | exact Or.inr ⟨rfl, Or.inr rfl⟩) rfl ⟨rfl, by rw [hz]; rfl⟩
        · have hb24 : ¬ a.toInt < (4 : Int32).toInt := fun h => hb24 (Int32.lt_iff_toInt_lt.mpr h)
          refine zj_iload_n C (List.mem_of_getElem? (i := 19) rfl) rfl rfl rfl ?_
          refine zj_iconst (v := 4) C (List.mem_of_getElem? (i := 20) rfl) rfl (by decide) ?_
          refine zj_icmp_ne (tgt := 50) C (List.mem_of_getElem? (i := 21) rfl) rfl (by decide) (fun hb25 => ?_) (fun hb25 => ?_)
          · have hb25 : ¬ a.toInt = (4 : Int32).toInt := fun h => hb25 (Int32.toInt_inj.mp h)
            refine zj_iconst (v := 0) C (List.mem_of_getElem? (i := 30) rfl) rfl (by decide) ?_
            have hz : zm_an a.toInt b.toInt = false := by
              rw [Bool.eq_false_iff]
              intro hz
              unfold zm_an at hz
              simp only [Bool.or_eq_true, Bool.and_eq_true, decide_eq_true_iff] at hz
              by_cases hab : a.toInt < b.toInt
              · rw [if_pos hab, if_pos hab] at hz
                omega
              · rw [if_neg hab, if_neg hab] at hz
                omega
            exact KRi 51 _ _ _ (List.mem_of_getElem? (i := 31) rfl) (by decide) (by first | exact Or.inr ⟨rfl, Or.inl rfl⟩ | exact Or.inr ⟨rfl, Or.inr rfl⟩) rfl ⟨rfl, by rw [hz]; rfl⟩
          · have hb25 : a.toInt = (4 : Int32).toInt := congrArg Int32.toInt hb25
            refine zj_iload_n C (List.mem_of_getElem? (i := 22) rfl) rfl rfl rfl ?_
            refine zj_iconst (v := 1) C (List.mem_of_getElem? (i := 23) rfl) rfl (by decide) ?_
            refine zj_icmp_eq (tgt := 46) C (List.mem_of_getElem? (i := 24) rfl) rfl (by decide) (fun hb26 => ?_) (fun hb26 => ?_)
            · have hb26 : a.toInt = (1 : Int32).toInt := congrArg Int32.toInt hb26
              refine zj_iconst (v := 1) C (List.mem_of_getElem? (i := 28) rfl) rfl (by decide) ?_
              refine zj_goto (tgt := 51) C (List.mem_of_getElem? (i := 29) rfl) (by decide) ?_
              have hz : zm_an a.toInt b.toInt = true := by
                unfold zm_an
                simp only [Bool.or_eq_true, Bool.and_eq_true, decide_eq_true_iff]
                by_cases hab : a.toInt < b.toInt
                · rw [if_pos hab, if_pos hab]
                  omega
                · rw [if_neg hab, if_neg hab]
                  omega
              exact KRi 51 _ _ _ (List.mem_of_getElem? (i := 31) rfl) (by decide) (by first | exact Or.inr ⟨rfl, Or.inl rfl⟩ | exact Or.inr ⟨rfl, Or.inr rfl⟩) rfl ⟨rfl, by rw [hz]; rfl⟩
            · have hb26 : ¬ a.toInt = (1 : Int32).toInt := fun h => hb26 (Int32.toInt_inj.mp h)
              refine zj_iload_n C (List.mem_of_getElem? (i := 25) rfl) rfl rfl rfl ?_
              refine zj_iconst (v := 3) C (List.mem_of_getElem? (i := 26) rfl) rfl (by decide) ?_
              refine zj_icmp_ne (tgt := 50) C (List.mem_of_getElem? (i := 27) rfl) rfl (by decide) (fun hb27 => ?_) (fun hb27 => ?_)
              · have hb27 : ¬ a.toInt = (3 : Int32).toInt := fun h => hb27 (Int32.toInt_inj.mp h)
                refine zj_iconst (v := 0) C (List.mem_of_getElem? (i := 30) rfl) rfl (by decide) ?_
                have hz : zm_an a.toInt b.toInt = false := by
                  rw [Bool.eq_false_iff]
                  intro hz
                  unfold zm_an at hz
                  simp only [Bool.or_eq_true, Bool.and_eq_true, decide_eq_true_iff] at hz
                  by_cases hab : a.toInt < b.toInt
                  · rw [if_pos hab, if_pos hab] at hz
                    omega
                  · rw [if_neg hab, if_neg hab] at hz
                    omega
                exact KRi 51 _ _ _ (List.mem_of_getElem? (i := 31) rfl) (by decide) (by first | exact Or.inr ⟨rfl, Or.inl rfl⟩ | exact Or.inr ⟨rfl, Or.inr rfl⟩) rfl ⟨rfl, by rw [hz]; rfl⟩
              · have hb27 : a.toInt = (3 : Int32).toInt := congrArg Int32.toInt hb27
                refine zj_iconst (v := 1) C (List.mem_of_getElem? (i := 28) rfl) rfl (by decide) ?_
                refine zj_goto (tgt := 51) C (List.mem_of_getElem? (i := 29) rfl) (by decide) ?_
                have hz : zm_an a.toInt b.toInt = true := by
                  unfold zm_an
                  simp only [Bool.or_eq_true, Bool.and_eq_true, decide_eq_true_iff]
                  by_cases hab : a.toInt < b.toInt
                  · rw [if_pos hab, if_pos hab]
                    omega
                  · rw [if_neg hab, if_neg hab]
                    omega
                exact KRi 51 _ _ _ (List.mem_of_getElem? (i := 31) rfl) (by decide) (by first | exact Or.inr ⟨rfl, Or.inl rfl⟩ | exact Or.inr ⟨rfl, Or.inr rfl⟩) rfl ⟨rfl, by rw [hz]; rfl⟩
    · have hb19 : ¬ b.toInt ≤ a.toInt := fun h => hb19 (Int32.le_iff_toInt_le.mpr h)
      refine zj_iload_n C (List.mem_of_getElem? (i := 10) rfl) rfl rfl rfl ?_
      refine zj_goto (tgt := 21) C (List.mem_of_getElem? (i := 11) rfl) (by decide) ?_
      refine zj_istore_n C (List.mem_of_getElem? (i := 13) rfl) rfl rfl (by decide) rfl ?_
      refine zj_iload_n C (List.mem_of_getElem? (i := 14) rfl) rfl rfl rfl ?_
      refine zj_if_ne (tgt := 31) C (List.mem_of_getElem? (i := 15) rfl) rfl (by decide) (fun hb28 => ?_) (fun hb28 => ?_)
      · have hb28 : ¬ a.toInt = (0 : Int32).toInt := fun h => hb28 (Int32.toInt_inj.mp h)
        refine zj_iload_n C (List.mem_of_getElem? (i := 19) rfl) rfl rfl rfl ?_
        refine zj_iconst (v := 4) C (List.mem_of_getElem? (i := 20) rfl) rfl (by decide) ?_
        refine zj_icmp_ne (tgt := 50) C (List.mem_of_getElem? (i := 21) rfl) rfl (by decide) (fun hb29 => ?_) (fun hb29 => ?_)
        · have hb29 : ¬ b.toInt = (4 : Int32).toInt := fun h => hb29 (Int32.toInt_inj.mp h)
          refine zj_iconst (v := 0) C (List.mem_of_getElem? (i := 30) rfl) rfl (by decide) ?_
          have hz : zm_an a.toInt b.toInt = false := by
            rw [Bool.eq_false_iff]
            intro hz
            unfold zm_an at hz
            simp only [Bool.or_eq_true, Bool.and_eq_true, decide_eq_true_iff] at hz
            by_cases hab : a.toInt < b.toInt
            · rw [if_pos hab, if_pos hab] at hz
              omega
            · rw [if_neg hab, if_neg hab] at hz
              omega
          exact KRi 51 _ _ _ (List.mem_of_getElem? (i := 31) rfl) (by decide) (by first | exact Or.inr ⟨rfl, Or.inl rfl⟩ | exact Or.inr ⟨rfl, Or.inr rfl⟩) rfl ⟨rfl, by rw [hz]; rfl⟩
        · have hb29 : b.toInt = (4 : Int32).toInt := congrArg Int32.toInt hb29
          refine zj_iload_n C (List.mem_of_getElem? (i := 22) rfl) rfl rfl rfl ?_
          refine zj_iconst (v := 1) C (List.mem_of_getElem? (i := 23) rfl) rfl (by decide) ?_
          refine zj_icmp_eq (tgt := 46) C (List.mem_of_getElem? (i := 24) rfl) rfl (by decide) (fun hb30 => ?_) (fun hb30 => ?_)
          · have hb30 : a.toInt = (1 : Int32).toInt := congrArg Int32.toInt hb30
            refine zj_iconst (v := 1) C (List.mem_of_getElem? (i := 28) rfl) rfl (by decide) ?_
            refine zj_goto (tgt := 51) C (List.mem_of_getElem? (i := 29) rfl) (by decide) ?_
            have hz : zm_an a.toInt b.toInt = true := by
              unfold zm_an
              simp only [Bool.or_eq_true, Bool.and_eq_true, decide_eq_true_iff]
              by_cases hab : a.toInt < b.toInt
              · rw [if_pos hab, if_pos hab]
                omega
              · rw [if_neg hab, if_neg hab]
                omega
            exact KRi 51 _ _ _ (List.mem_of_getElem? (i := 31) rfl) (by decide) (by first | exact Or.inr ⟨rfl, Or.inl rfl⟩ | exact Or.inr ⟨rfl, Or.inr rfl⟩) rfl ⟨rfl, by rw [hz]; rfl⟩
          · have hb30 : ¬ a.toInt = (1 : Int32).toInt := fun h => hb30 (Int32.toInt_inj.mp h)
            refine zj_iload_n C (List.mem_of_getElem? (i := 25) rfl) rfl rfl rfl ?_
            refine zj_iconst (v := 3) C (List.mem_of_getElem? (i := 26) rfl) rfl (by decide) ?_
            refine zj_icmp_ne (tgt := 50) C (List.mem_of_getElem? (i := 27) rfl) rfl (by decide) (fun hb31 => ?_) (fun hb31 => ?_)
            · have hb31 : ¬ a.toInt = (3 : Int32).toInt := fun h => hb31 (Int32.toInt_inj.mp h)
              refine zj_iconst (v := 0) C (List.mem_of_getElem? (i := 30) rfl) rfl (by decide) ?_
              have hz : zm_an a.toInt b.toInt = false := by
                rw [Bool.eq_false_iff]
                intro hz
                unfold zm_an at hz
                simp only [Bool.or_eq_true, Bool.and_eq_true, decide_eq_true_iff] at hz
                by_cases hab : a.toInt < b.toInt
                · rw [if_pos hab, if_pos hab] at hz
                  omega
                · rw [if_neg hab, if_neg hab] at hz
                  omega
              exact KRi 51 _ _ _ (List.mem_of_getElem? (i := 31) rfl) (by decide) (by first | exact Or.inr ⟨rfl, Or.inl rfl⟩ | exact Or.inr ⟨rfl, Or.inr rfl⟩) rfl ⟨rfl, by rw [hz]; rfl⟩
            · have hb31 : a.toInt = (3 : Int32).toInt := congrArg Int32.toInt hb31
              refine zj_iconst (v := 1) C (List.mem_of_getElem? (i := 28) rfl) rfl (by decide) ?_
              refine zj_goto (tgt := 51) C (List.mem_of_getElem? (i := 29) rfl) (by decide) ?_
              have hz : zm_an a.toInt b.toInt = true := by
                unfold zm_an
                simp only [Bool.or_eq_true, Bool.and_eq_true, decide_eq_true_iff]
                by_cases hab : a.toInt < b.toInt
                · rw [if_pos hab, if_pos hab]
                  omega
                · rw [if_neg hab, if_neg hab]
                  omega
              exact KRi 51 _ _ _ (List.mem_of_getElem? (i := 31) rfl) (by decide) (by first | exact Or.inr ⟨rfl, Or.inl rfl⟩ | exact Or.inr ⟨rfl, Or.inr rfl⟩) rfl ⟨rfl, by rw [hz]; rfl⟩
      · have hb28 : a.toInt = (0 : Int32).toInt := congrArg Int32.toInt hb28
        refine zj_iload_n C (List.mem_of_getElem? (i := 16) rfl) rfl rfl rfl ?_
        refine zj_iconst (v := 4) C (List.mem_of_getElem? (i := 17) rfl) rfl (by decide) ?_
        refine zj_icmp_lt (tgt := 46) C (List.mem_of_getElem? (i := 18) rfl) rfl (by decide) (fun hb32 => ?_) (fun hb32 => ?_)
        · have hb32 : b.toInt < (4 : Int32).toInt := Int32.lt_iff_toInt_lt.mp hb32
          refine zj_iconst (v := 1) C (List.mem_of_getElem? (i := 28) rfl) rfl (by decide) ?_
          refine zj_goto (tgt := 51) C (List.mem_of_getElem? (i := 29) rfl) (by decide) ?_
          have hz : zm_an a.toInt b.toInt = true := by
            unfold zm_an
            simp only [Bool.or_eq_true, Bool.and_eq_true, decide_eq_true_iff]
            by_cases hab : a.toInt < b.toInt
            · rw [if_pos hab, if_pos hab]
              omega
            · rw [if_neg hab, if_neg hab]
              omega
          exact KRi 51 _ _ _ (List.mem_of_getElem? (i := 31) rfl) (by decide) (by first | exact Or.inr ⟨rfl, Or.inl rfl⟩ | exact Or.inr ⟨rfl, Or.inr rfl⟩) rfl ⟨rfl, by rw [hz]; rfl⟩
        · have hb32 : ¬ b.toInt < (4 : Int32).toInt := fun h => hb32 (Int32.lt_iff_toInt_lt.mpr h)
          refine zj_iload_n C (List.mem_of_getElem? (i := 19) rfl) rfl rfl rfl ?_
          refine zj_iconst (v := 4) C (List.mem_of_getElem? (i := 20) rfl) rfl (by decide) ?_
          refine zj_icmp_ne (tgt := 50) C (List.mem_of_getElem? (i := 21) rfl) rfl (by decide) (fun hb33 => ?_) (fun hb33 => ?_)
          · have hb33 : ¬ b.toInt = (4 : Int32).toInt := fun h => hb33 (Int32.toInt_inj.mp h)
            refine zj_iconst (v := 0) C (List.mem_of_getElem? (i := 30) rfl) rfl (by decide) ?_
            have hz : zm_an a.toInt b.toInt = false := by
              rw [Bool.eq_false_iff]
              intro hz
              unfold zm_an at hz
              simp only [Bool.or_eq_true, Bool.and_eq_true, decide_eq_true_iff] at hz
              by_cases hab : a.toInt < b.toInt
              · rw [if_pos hab, if_pos hab] at hz
                omega
              · rw [if_neg hab, if_neg hab] at hz
                omega
            exact KRi 51 _ _ _ (List.mem_of_getElem? (i := 31) rfl) (by decide) (by first | exact Or.inr ⟨rfl, Or.inl rfl⟩ | exact Or.inr ⟨rfl, Or.inr rfl⟩) rfl ⟨rfl, by rw [hz]; rfl⟩
          · have hb33 : b.toInt = (4 : Int32).toInt := congrArg Int32.toInt hb33
            refine zj_iload_n C (List.mem_of_getElem? (i := 22) rfl) rfl rfl rfl ?_
            refine zj_iconst (v := 1) C (List.mem_of_getElem? (i := 23) rfl) rfl (by decide) ?_
            refine zj_icmp_eq (tgt := 46) C (List.mem_of_getElem? (i := 24) rfl) rfl (by decide) (fun hb34 => ?_) (fun hb34 => ?_)
            · have hb34 : a.toInt = (1 : Int32).toInt := congrArg Int32.toInt hb34
              refine zj_iconst (v := 1) C (List.mem_of_getElem? (i := 28) rfl) rfl (by decide) ?_
              refine zj_goto (tgt := 51) C (List.mem_of_getElem? (i := 29) rfl) (by decide) ?_
              have hz : zm_an a.toInt b.toInt = true := by
                unfold zm_an
                simp only [Bool.or_eq_true, Bool.and_eq_true, decide_eq_true_iff]
                by_cases hab : a.toInt < b.toInt
                · rw [if_pos hab, if_pos hab]
                  omega
                · rw [if_neg hab, if_neg hab]
                  omega
              exact KRi 51 _ _ _ (List.mem_of_getElem? (i := 31) rfl) (by decide) (by first | exact Or.inr ⟨rfl, Or.inl rfl⟩ | exact Or.inr ⟨rfl, Or.inr rfl⟩) rfl ⟨rfl, by rw [hz]; rfl⟩
            · have hb34 : ¬ a.toInt = (1 : Int32).toInt := fun h => hb34 (Int32.toInt_inj.mp h)
              refine zj_iload_n C (List.mem_of_getElem? (i := 25) rfl) rfl rfl rfl ?_
              refine zj_iconst (v := 3) C (List.mem_of_getElem? (i := 26) rfl) rfl (by decide) ?_
              refine zj_icmp_ne (tgt := 50) C (List.mem_of_getElem? (i := 27) rfl) rfl (by decide) (fun hb35 => ?_) (fun hb35 => ?_)
              · have hb35 : ¬ a.toInt = (3 : Int32).toInt := fun h => hb35 (Int32.toInt_inj.mp h)
                refine zj_iconst (v := 0) C (List.mem_of_getElem? (i := 30) rfl) rfl (by decide) ?_
                have hz : zm_an a.toInt b.toInt = false := by
                  rw [Bool.eq_false_iff]
                  intro hz
                  unfold zm_an at hz
                  simp only [Bool.or_eq_true, Bool.and_eq_true, decide_eq_true_iff] at hz
                  by_cases hab : a.toInt < b.toInt
                  · rw [if_pos hab, if_pos hab] at hz
                    omega
                  · rw [if_neg hab, if_neg hab] at hz
                    omega
                exact KRi 51 _ _ _ (List.mem_of_getElem? (i := 31) rfl) (by decide) (by first | exact Or.inr ⟨rfl, Or.inl rfl⟩ | exact Or.inr ⟨rfl, Or.inr rfl⟩) rfl ⟨rfl, by rw [hz]; rfl⟩
              · have hb35 : a.toInt = (3 : Int32).toInt := congrArg Int32.toInt hb35
                refine zj_iconst (v := 1) C (List.mem_of_getElem? (i := 28) rfl) rfl (by decide) ?_
                refine zj_goto (tgt := 51) C (List.mem_of_getElem? (i := 29) rfl) (by decide) ?_
                have hz : zm_an a.toInt b.toInt = true := by
                  unfold zm_an
                  simp only [Bool.or_eq_true, Bool.and_eq_true, decide_eq_true_iff]
                  by_cases hab : a.toInt < b.toInt
                  · rw [if_pos hab, if_pos hab]
                    omega
                  · rw [if_neg hab, if_neg hab]
                    omega
                exact KRi 51 _ _ _ (List.mem_of_getElem? (i := 31) rfl) (by decide) (by first | exact Or.inr ⟨rfl, Or.inl rfl⟩ | exact Or.inr ⟨rfl, Or.inr rfl⟩) rfl ⟨rfl, by rw [hz]; rfl⟩
theorem zm_moved_W {l : Launch} {tys : List (ClassId × FieldType)} {ex : List Nat} {ws0 : va_W} {k s0 f : Nat} (hk : k < 625) (hs : s0 < 4) (hf : f < 5) : zj_W l 2 207 (zm_X ex tys [.int (nI k), .int (nI s0), .int (nI f)] ws0) (fun _ _ _ v ws' => ws0 = ws' ∧ v = some (.int (nI (zm_md k s0 f)))) := by
  refine zj_enterW (md := zx_m207) rfl rfl ?_ ?_
  · rintro ex tys av ws ⟨-, -, rfl, -⟩
    exact Nat.le_of_ble_eq_true rfl
  intro p e R s mi args below meth c Q D A ex nL own cc tys ws av hX C hnL KRi KRv KRa
  subst hnL
  obtain ⟨h1, h2, h3, h4⟩ := hX
  subst h1
  subst h2
  subst h3
  subst h4
  rcases (by omega : s0 = 0 ∨ s0 = 1 ∨ s0 = 2 ∨ s0 = 3) with rfl | rfl | rfl | rfl
  · skip
    refine zj_iload_n C (List.mem_of_getElem? (i := 0) rfl) rfl rfl rfl ?_
    refine zj_iload_n C (List.mem_of_getElem? (i := 1) rfl) rfl rfl rfl ?_
    refine zj_iload_n C (List.mem_of_getElem? (i := 2) rfl) rfl rfl rfl ?_
    refine zj_iload_n C (List.mem_of_getElem? (i := 3) rfl) rfl rfl rfl ?_
    refine zj_callS (As := [.int (nI k), .int (nI 0)]) (rest := [.int (nI f), .int (nI k)]) C (List.mem_of_getElem? (i := 4) rfl) rfl rfl (Or.inl rfl) (zm_placeR_W (s0 := 0) hk (by decide)) rfl rfl (Nat.le_of_ble_eq_true rfl) rfl ⟨rfl, rfl, rfl, rfl⟩ (fun v w2 hw2A hw2Z => ?_)
    obtain ⟨he, hv⟩ := hw2Z
    subst he
    subst hv
    refine zj_isub (v := (nI f - nI (zm_pl k 0))) C (List.mem_of_getElem? (i := 5) rfl) rfl rfl ?_
    refine zj_iload_n C (List.mem_of_getElem? (i := 6) rfl) rfl rfl rfl ?_
    refine zj_if_ne (tgt := 16) C (List.mem_of_getElem? (i := 7) rfl) rfl (by decide) (fun hbr => ?_) (fun hbr => ?_)
    · exact absurd hbr (by decide)
    refine zj_iconst (v := 1) C (List.mem_of_getElem? (i := 8) rfl) rfl (by decide) ?_
    refine zj_goto (tgt := 37) C (List.mem_of_getElem? (i := 9) rfl) (by decide) ?_
    refine zj_imul (v := ((nI f - nI (zm_pl k 0)) * 1)) C (List.mem_of_getElem? (i := 21) rfl) rfl rfl ?_
    refine zj_iadd (v := (nI (zm_md k 0 f))) C (List.mem_of_getElem? (i := 22) rfl) rfl (zm_to (s := 0) hk (by decide) hf rfl) ?_
    exact KRi 39 _ _ _ (List.mem_of_getElem? (i := 23) rfl) (by decide) (Or.inl rfl) rfl ⟨rfl, rfl⟩
  · skip
    refine zj_iload_n C (List.mem_of_getElem? (i := 0) rfl) rfl rfl rfl ?_
    refine zj_iload_n C (List.mem_of_getElem? (i := 1) rfl) rfl rfl rfl ?_
    refine zj_iload_n C (List.mem_of_getElem? (i := 2) rfl) rfl rfl rfl ?_
    refine zj_iload_n C (List.mem_of_getElem? (i := 3) rfl) rfl rfl rfl ?_
    refine zj_callS (As := [.int (nI k), .int (nI 1)]) (rest := [.int (nI f), .int (nI k)]) C (List.mem_of_getElem? (i := 4) rfl) rfl rfl (Or.inl rfl) (zm_placeR_W (s0 := 1) hk (by decide)) rfl rfl (Nat.le_of_ble_eq_true rfl) rfl ⟨rfl, rfl, rfl, rfl⟩ (fun v w2 hw2A hw2Z => ?_)
    obtain ⟨he, hv⟩ := hw2Z
    subst he
    subst hv
    refine zj_isub (v := (nI f - nI (zm_pl k 1))) C (List.mem_of_getElem? (i := 5) rfl) rfl rfl ?_
    refine zj_iload_n C (List.mem_of_getElem? (i := 6) rfl) rfl rfl rfl ?_
    refine zj_if_ne (tgt := 16) C (List.mem_of_getElem? (i := 7) rfl) rfl (by decide) (fun hbr => ?_) (fun hbr => ?_)
    rotate_left
    · exact absurd hbr (by decide)
    refine zj_iload_n C (List.mem_of_getElem? (i := 10) rfl) rfl rfl rfl ?_
    refine zj_iconst (v := 1) C (List.mem_of_getElem? (i := 11) rfl) rfl (by decide) ?_
    refine zj_icmp_ne (tgt := 25) C (List.mem_of_getElem? (i := 12) rfl) rfl (by decide) (fun hbr => ?_) (fun hbr => ?_)
    · exact absurd hbr (by decide)
    refine zj_iconst (v := 5) C (List.mem_of_getElem? (i := 13) rfl) rfl (by decide) ?_
    refine zj_goto (tgt := 37) C (List.mem_of_getElem? (i := 14) rfl) (by decide) ?_
    refine zj_imul (v := ((nI f - nI (zm_pl k 1)) * 5)) C (List.mem_of_getElem? (i := 21) rfl) rfl rfl ?_
    refine zj_iadd (v := (nI (zm_md k 1 f))) C (List.mem_of_getElem? (i := 22) rfl) rfl (zm_to (s := 1) hk (by decide) hf rfl) ?_
    exact KRi 39 _ _ _ (List.mem_of_getElem? (i := 23) rfl) (by decide) (Or.inl rfl) rfl ⟨rfl, rfl⟩
  · skip
    refine zj_iload_n C (List.mem_of_getElem? (i := 0) rfl) rfl rfl rfl ?_
    refine zj_iload_n C (List.mem_of_getElem? (i := 1) rfl) rfl rfl rfl ?_
    refine zj_iload_n C (List.mem_of_getElem? (i := 2) rfl) rfl rfl rfl ?_
    refine zj_iload_n C (List.mem_of_getElem? (i := 3) rfl) rfl rfl rfl ?_
    refine zj_callS (As := [.int (nI k), .int (nI 2)]) (rest := [.int (nI f), .int (nI k)]) C (List.mem_of_getElem? (i := 4) rfl) rfl rfl (Or.inl rfl) (zm_placeR_W (s0 := 2) hk (by decide)) rfl rfl (Nat.le_of_ble_eq_true rfl) rfl ⟨rfl, rfl, rfl, rfl⟩ (fun v w2 hw2A hw2Z => ?_)
    obtain ⟨he, hv⟩ := hw2Z
    subst he
    subst hv
    refine zj_isub (v := (nI f - nI (zm_pl k 2))) C (List.mem_of_getElem? (i := 5) rfl) rfl rfl ?_
    refine zj_iload_n C (List.mem_of_getElem? (i := 6) rfl) rfl rfl rfl ?_
    refine zj_if_ne (tgt := 16) C (List.mem_of_getElem? (i := 7) rfl) rfl (by decide) (fun hbr => ?_) (fun hbr => ?_)
    rotate_left
    · exact absurd hbr (by decide)
    refine zj_iload_n C (List.mem_of_getElem? (i := 10) rfl) rfl rfl rfl ?_
    refine zj_iconst (v := 1) C (List.mem_of_getElem? (i := 11) rfl) rfl (by decide) ?_
    refine zj_icmp_ne (tgt := 25) C (List.mem_of_getElem? (i := 12) rfl) rfl (by decide) (fun hbr => ?_) (fun hbr => ?_)
    rotate_left
    · exact absurd hbr (by decide)
    refine zj_iload_n C (List.mem_of_getElem? (i := 15) rfl) rfl rfl rfl ?_
    refine zj_iconst (v := 2) C (List.mem_of_getElem? (i := 16) rfl) rfl (by decide) ?_
    refine zj_icmp_ne (tgt := 35) C (List.mem_of_getElem? (i := 17) rfl) rfl (by decide) (fun hbr => ?_) (fun hbr => ?_)
    · exact absurd hbr (by decide)
    refine zj_bipush (v := 25) C (List.mem_of_getElem? (i := 18) rfl) rfl (by decide) ?_
    refine zj_goto (tgt := 37) C (List.mem_of_getElem? (i := 19) rfl) (by decide) ?_
    refine zj_imul (v := ((nI f - nI (zm_pl k 2)) * 25)) C (List.mem_of_getElem? (i := 21) rfl) rfl rfl ?_
    refine zj_iadd (v := (nI (zm_md k 2 f))) C (List.mem_of_getElem? (i := 22) rfl) rfl (zm_to (s := 2) hk (by decide) hf rfl) ?_
    exact KRi 39 _ _ _ (List.mem_of_getElem? (i := 23) rfl) (by decide) (Or.inl rfl) rfl ⟨rfl, rfl⟩
  · skip
    refine zj_iload_n C (List.mem_of_getElem? (i := 0) rfl) rfl rfl rfl ?_
    refine zj_iload_n C (List.mem_of_getElem? (i := 1) rfl) rfl rfl rfl ?_
    refine zj_iload_n C (List.mem_of_getElem? (i := 2) rfl) rfl rfl rfl ?_
    refine zj_iload_n C (List.mem_of_getElem? (i := 3) rfl) rfl rfl rfl ?_
    refine zj_callS (As := [.int (nI k), .int (nI 3)]) (rest := [.int (nI f), .int (nI k)]) C (List.mem_of_getElem? (i := 4) rfl) rfl rfl (Or.inl rfl) (zm_placeR_W (s0 := 3) hk (by decide)) rfl rfl (Nat.le_of_ble_eq_true rfl) rfl ⟨rfl, rfl, rfl, rfl⟩ (fun v w2 hw2A hw2Z => ?_)
    obtain ⟨he, hv⟩ := hw2Z
    subst he
    subst hv
    refine zj_isub (v := (nI f - nI (zm_pl k 3))) C (List.mem_of_getElem? (i := 5) rfl) rfl rfl ?_
    refine zj_iload_n C (List.mem_of_getElem? (i := 6) rfl) rfl rfl rfl ?_
    refine zj_if_ne (tgt := 16) C (List.mem_of_getElem? (i := 7) rfl) rfl (by decide) (fun hbr => ?_) (fun hbr => ?_)
    rotate_left
    · exact absurd hbr (by decide)
    refine zj_iload_n C (List.mem_of_getElem? (i := 10) rfl) rfl rfl rfl ?_
    refine zj_iconst (v := 1) C (List.mem_of_getElem? (i := 11) rfl) rfl (by decide) ?_
    refine zj_icmp_ne (tgt := 25) C (List.mem_of_getElem? (i := 12) rfl) rfl (by decide) (fun hbr => ?_) (fun hbr => ?_)
    rotate_left
    · exact absurd hbr (by decide)
    refine zj_iload_n C (List.mem_of_getElem? (i := 15) rfl) rfl rfl rfl ?_
    refine zj_iconst (v := 2) C (List.mem_of_getElem? (i := 16) rfl) rfl (by decide) ?_
    refine zj_icmp_ne (tgt := 35) C (List.mem_of_getElem? (i := 17) rfl) rfl (by decide) (fun hbr => ?_) (fun hbr => ?_)
    rotate_left
    · exact absurd hbr (by decide)
    refine zj_bipush (v := 125) C (List.mem_of_getElem? (i := 20) rfl) rfl (by decide) ?_
    refine zj_imul (v := ((nI f - nI (zm_pl k 3)) * 125)) C (List.mem_of_getElem? (i := 21) rfl) rfl rfl ?_
    refine zj_iadd (v := (nI (zm_md k 3 f))) C (List.mem_of_getElem? (i := 22) rfl) rfl (zm_to (s := 3) hk (by decide) hf rfl) ?_
    exact KRi 39 _ _ _ (List.mem_of_getElem? (i := 23) rfl) (by decide) (Or.inl rfl) rfl ⟨rfl, rfl⟩
theorem zm_isIn_W {l : Launch} {tys : List (ClassId × FieldType)} {ex : List Nat} {ws0 : va_W} {x lo hi : Int32} : zj_W l 1 141 (zm_X ex tys [.int x, .int lo, .int hi] ws0) (fun _ _ _ v ws' => ws0 = ws' ∧ ((v = some (.int 1) ∧ (lo.toInt ≤ x.toInt ∧ x.toInt ≤ hi.toInt)) ∨ (v = some (.int 0) ∧ ¬ (lo.toInt ≤ x.toInt ∧ x.toInt ≤ hi.toInt)))) := by
  refine zj_enterW (md := zx_m141) rfl rfl ?_ ?_
  · rintro ex tys av ws ⟨-, -, rfl, -⟩
    exact Nat.le_of_ble_eq_true rfl
  intro p e R s mi args below meth c Q D A ex nL own cc tys ws av hX C hnL KRi KRv KRa
  subst hnL
  obtain ⟨h1, h2, h3, h4⟩ := hX
  subst h1
  subst h2
  subst h3
  subst h4
  refine zj_iload_n C (List.mem_of_getElem? (i := 0) rfl) rfl rfl rfl ?_
  refine zj_iload_n C (List.mem_of_getElem? (i := 1) rfl) rfl rfl rfl ?_
  refine zj_icmp_lt (tgt := 14) C (List.mem_of_getElem? (i := 2) rfl) rfl (by decide) (fun hb => ?_) (fun hb => ?_)
  · have hb := Int32.lt_iff_toInt_lt.mp hb
    refine zj_iconst (v := 0) C (List.mem_of_getElem? (i := 8) rfl) rfl (by decide) ?_
    exact KRi 15 _ _ _ (List.mem_of_getElem? (i := 9) rfl) (by decide) (Or.inr ⟨rfl, Or.inl rfl⟩) rfl ⟨rfl, Or.inr ⟨rfl, fun h => by omega⟩⟩
  have hb : ¬ x.toInt < lo.toInt := fun h => hb (Int32.lt_iff_toInt_lt.mpr h)
  refine zj_iload_n C (List.mem_of_getElem? (i := 3) rfl) rfl rfl rfl ?_
  refine zj_iload_n C (List.mem_of_getElem? (i := 4) rfl) rfl rfl rfl ?_
  refine zj_icmp_gt (tgt := 14) C (List.mem_of_getElem? (i := 5) rfl) rfl (by decide) (fun hb2 => ?_) (fun hb2 => ?_)
  · have hb2 := Int32.lt_iff_toInt_lt.mp hb2
    refine zj_iconst (v := 0) C (List.mem_of_getElem? (i := 8) rfl) rfl (by decide) ?_
    exact KRi 15 _ _ _ (List.mem_of_getElem? (i := 9) rfl) (by decide) (Or.inr ⟨rfl, Or.inl rfl⟩) rfl ⟨rfl, Or.inr ⟨rfl, fun h => by omega⟩⟩
  have hb2 : ¬ hi.toInt < x.toInt := fun h => hb2 (Int32.lt_iff_toInt_lt.mpr h)
  refine zj_iconst (v := 1) C (List.mem_of_getElem? (i := 6) rfl) rfl (by decide) ?_
  refine zj_goto (tgt := 15) C (List.mem_of_getElem? (i := 7) rfl) (by decide) ?_
  exact KRi 15 _ _ _ (List.mem_of_getElem? (i := 9) rfl) (by decide) (Or.inr ⟨rfl, Or.inr rfl⟩) rfl ⟨rfl, Or.inl ⟨rfl, by omega, by omega⟩⟩
set_option maxHeartbeats 2000000 in
theorem zm_first_W {l : Launch} {tys : List (ClassId × FieldType)} {ex : List Nat} {ws0 : va_W} {aM aY aZ : Nat} (hc : zm_cell aM aY aZ ws0) (h0 : ∃ f, zj_row tys ws0 272 aY 625 .boolean f) (hz : ∃ f, zj_row tys ws0 273 aZ 625 .boolean f) : zj_W l 1 202 (zm_X ex tys [.ref aM] ws0) (fun _ _ _ v ws' => v = none ∧ zm_cell aM aY aZ ws' ∧ zm_B tys ws' 272 aY [430] ∧ ∃ f, zj_row tys ws' 273 aZ 625 .boolean f) := by
  refine zj_enterW (md := zx_m202) rfl rfl ?_ ?_
  · rintro ex tys av ws ⟨-, -, rfl, -⟩
    exact Nat.le_of_ble_eq_true rfl
  intro p e R s mi args below meth c Q D A ex nL own cc tys ws av hX C hnL KRi KRv KRa
  subst hnL
  obtain ⟨h1, h2, h3, h4⟩ := hX
  subst h1
  subst h2
  subst h3
  subst h4
  obtain ⟨f0, hf0⟩ := h0
  obtain ⟨fz, hfz⟩ := hz
  have loop : ∀ (N j : Nat) (f : Nat → Int32) (ws1 : va_W), j + N = 625 → zm_cell aM aY aZ ws1 → zj_row tys ws1 272 aY 625 .boolean f → zj_row tys ws1 273 aZ 625 .boolean fz → (∀ x, x < j → f x = 0) → zx_as ws1 = zx_as ws → zj_go p l e R s mi args below meth c Q D A (zx_mV zx_m202.2.1) 2 [(1, .int (nI j)), (0, .ref aM)] [] ws1 := by
    intro N
    induction N with
    | zero =>
      intro j f ws1 hj h1 hf hg1 hz hA1
      have hj : j = 625 := by omega
      subst hj
      have h11 := h1
      obtain ⟨fs, g218, gl, g80, g81⟩ := h1
      refine zj_iload_n C (List.mem_of_getElem? (i := 2) rfl) rfl rfl rfl ?_
      refine zj_sipush (v := 625) C (List.mem_of_getElem? (i := 3) rfl) rfl (by decide) ?_
      refine zj_icmp_ge (tgt := 22) C (List.mem_of_getElem? (i := 4) rfl) rfl (by decide) (fun hq => ?_) (fun hq => ?_)
      rotate_left
      · exact absurd (Int32.le_refl _) hq
      refine zj_aload_n C (List.mem_of_getElem? (i := 12) rfl) rfl rfl rfl ?_
      refine zj_get C (List.mem_of_getElem? (i := 13) rfl) rfl rfl g218 rfl g80 ?_
      refine zj_sipush (v := 430) C (List.mem_of_getElem? (i := 14) rfl) rfl (by decide) ?_
      refine zj_iconst (v := 1) C (List.mem_of_getElem? (i := 15) rfl) rfl (by decide) ?_
      refine zj_zast (y := 1) C (List.mem_of_getElem? (i := 16) rfl) rfl hf (zm_in (n := 430) (N := 625) (by decide) (by decide)) (by decide) (fun cA hcA => ?_)
      have hnw2 : ∀ i, i ≠ 272 → (ws1.set 272 (aY, .inl (cA, 625, .inl (upd f (430 : Int32).toNatClampNeg 1))))[i]? = ws1[i]? := fun i hi => List.getElem?_set_ne (Ne.symm hi)
      have hAw2 : zx_as (ws1.set 272 (aY, .inl (cA, 625, .inl (upd f (430 : Int32).toNatClampNeg 1)))) = zx_as ws1 := zx_as_set hcA
      have hrw2 := zm_row_set (g := upd f (430 : Int32).toNatClampNeg 1) hf hcA
      generalize ws1.set 272 (aY, .inl (cA, 625, .inl (upd f (430 : Int32).toNatClampNeg 1))) = w2 at hnw2 hAw2 hrw2 ⊢
      exact KRv 31 _ _ (List.mem_of_getElem? (i := 17) rfl) rfl (hAw2.trans hA1) ⟨rfl, zm_cell_keep h11 (hnw2 218 (by decide)), zm_B_put (L := []) hrw2 (fun x hx => hz x hx), fz, zm_row_keep hg1 (hnw2 273 (by decide))⟩
    | succ N ih =>
      intro j f ws1 hj h1 hf hg1 hz hA1
      have h11 := h1
      obtain ⟨fs, g218, gl, g80, g81⟩ := h1
      refine zj_iload_n C (List.mem_of_getElem? (i := 2) rfl) rfl rfl rfl ?_
      refine zj_sipush (v := 625) C (List.mem_of_getElem? (i := 3) rfl) rfl (by decide) ?_
      refine zj_icmp_ge (tgt := 22) C (List.mem_of_getElem? (i := 4) rfl) rfl (by decide) (fun hq => ?_) (fun hq => ?_)
      · exact absurd ((nI_leI (a := 625) (b := j) (by decide) (by omega)).mp hq) (by omega)
      refine zj_aload_n C (List.mem_of_getElem? (i := 5) rfl) rfl rfl rfl ?_
      refine zj_get C (List.mem_of_getElem? (i := 6) rfl) rfl rfl g218 rfl g80 ?_
      refine zj_iload_n C (List.mem_of_getElem? (i := 7) rfl) rfl rfl rfl ?_
      refine zj_iconst (v := 0) C (List.mem_of_getElem? (i := 8) rfl) rfl (by decide) ?_
      refine zj_zast (y := 0) C (List.mem_of_getElem? (i := 9) rfl) rfl hf (zm_in (N := 625) (by omega) (by decide)) (by decide) (fun cA hcA => ?_)
      have hnw2 : ∀ i, i ≠ 272 → (ws1.set 272 (aY, .inl (cA, 625, .inl (upd f (nI j).toNatClampNeg 0))))[i]? = ws1[i]? := fun i hi => List.getElem?_set_ne (Ne.symm hi)
      have hAw2 : zx_as (ws1.set 272 (aY, .inl (cA, 625, .inl (upd f (nI j).toNatClampNeg 0)))) = zx_as ws1 := zx_as_set hcA
      have hrw2 := zm_row_set (g := upd f (nI j).toNatClampNeg 0) hf hcA
      generalize ws1.set 272 (aY, .inl (cA, 625, .inl (upd f (nI j).toNatClampNeg 0))) = w2 at hnw2 hAw2 hrw2 ⊢
      refine zj_iinc (k := 0) (v := (nI (j + 1))) C (List.mem_of_getElem? (i := 10) rfl) rfl rfl (nI_succ j).symm (by decide) rfl ?_
      refine zj_goto (tgt := 2) C (List.mem_of_getElem? (i := 11) rfl) (by decide) ?_
      refine ih (j + 1) _ w2 (by omega) (zm_cell_keep h11 (hnw2 218 (by decide))) hrw2 (zm_row_keep hg1 (hnw2 273 (by decide))) (fun x hx => ?_) (hAw2.trans hA1)
      rw [nI_clamp (by omega)]
      by_cases h : x = j
      · subst h
        simp [upd]
      · have h2 : upd f j 0 x = f x := by simp [upd, h]
        rw [h2]
        exact hz x (by omega)
  refine zj_iconst (v := 0) C (List.mem_of_getElem? (i := 0) rfl) rfl (by decide) ?_
  refine zj_istore_n C (List.mem_of_getElem? (i := 1) rfl) rfl rfl (by decide) rfl ?_
  exact loop 625 0 f0 ws rfl hc hf0 hfz (fun x hx => absurd hx (Nat.not_lt_zero _)) rfl
set_option maxHeartbeats 8000000 in
theorem zm_goOn_W {l : Launch} {tys : List (ClassId × FieldType)} {ex : List Nat} {ws0 : va_W} {aM aY aZ : Nat} {L : List Nat} (hc : zm_cell aM aY aZ ws0) (hB : zm_B tys ws0 272 aY L) (hz : ∃ f, zj_row tys ws0 273 aZ 625 .boolean f) : zj_W l 3 205 (zm_X ex tys [.ref aM] ws0) (fun _ _ _ v ws' => zm_cell aM aY aZ ws' ∧ zm_B tys ws' 272 aY (zm_go L).1 ∧ (∃ f, zj_row tys ws' 273 aZ 625 .boolean f) ∧ v = some (.int (zm_b (zm_go L).2))) := by
  refine zj_enterW (md := zx_m205) rfl rfl ?_ ?_
  · rintro ex tys av ws ⟨-, -, rfl, -⟩
    exact Nat.le_of_ble_eq_true rfl
  intro p e R s mi args below meth c Q D A ex nL own cc tys ws av hX C hnL KRi KRv KRa
  subst hnL
  obtain ⟨h1, h2, h3, h4⟩ := hX
  subst h1
  subst h2
  subst h3
  subst h4
  obtain ⟨fz, hfz⟩ := hz
  have inner : ∀ (N s1 k : Nat) (x : Int32) (L1 : List Nat) (m : Bool) (ws1 : va_W), s1 + N = 4 → k < 625 → x.toInt = zm_fr k → zm_cell aM aY aZ ws1 → zm_B tys ws1 272 aY L1 → zm_B tys ws1 273 aZ L → zx_as ws1 = zx_as ws → (∀ (L2 : List Nat) (m2 : Bool) (ws2 : va_W), zm_gs k (zm_fr k) N s1 L1 m = (L2, m2) → zm_cell aM aY aZ ws2 → zm_B tys ws2 272 aY L2 → zm_B tys ws2 273 aZ L → zx_as ws2 = zx_as ws → zj_go p l e R s mi args below meth c Q D A (zx_mV zx_m205.2.1) 138 [(2, .int (nI k)), (1, .int (zm_b m2)), (0, .ref aM)] [] ws2) → zj_go p l e R s mi args below meth c Q D A (zx_mV zx_m205.2.1) 80 [(4, .int (nI s1)), (3, .int x), (2, .int (nI k)), (1, .int (zm_b m)), (0, .ref aM)] [] ws1 := by
    intro N
    induction N with
    | zero =>
      intro s1 k x L1 m ws1 hj hk hx h1 hB1 hW1 hA1 hK
      have hj : s1 = 4 := by omega
      subst hj
      have h11 := h1
      obtain ⟨fs, g218, gl, g80, g81⟩ := h1
      refine zj_iload C (List.mem_of_getElem? (i := 48) rfl) rfl rfl ?_
      refine zj_iconst (v := 4) C (List.mem_of_getElem? (i := 49) rfl) rfl (by decide) ?_
      refine zj_icmp_ge (tgt := 138) C (List.mem_of_getElem? (i := 50) rfl) rfl (by decide) (fun hq => ?_) (fun hq => ?_)
      rotate_left
      · exact absurd (Int32.le_refl _) hq
      refine zm_perm (lv' := [(2, .int (nI k)), (1, .int (zm_b m)), (0, .ref aM)]) C (by repeat first | exact zm_sub_nil | refine zm_sub_cons rfl ?_) ?_
      exact hK L1 m ws1 rfl h11 hB1 hW1 hA1
    | succ N ih =>
      intro s1 k x L1 m ws1 hj hk hx h1 hB1 hW1 hA1 hK
      have h11 := h1
      obtain ⟨fs, g218, gl, g80, g81⟩ := h1
      refine zj_iload C (List.mem_of_getElem? (i := 48) rfl) rfl rfl ?_
      refine zj_iconst (v := 4) C (List.mem_of_getElem? (i := 49) rfl) rfl (by decide) ?_
      refine zj_icmp_ge (tgt := 138) C (List.mem_of_getElem? (i := 50) rfl) rfl (by decide) (fun hq => ?_) (fun hq => ?_)
      · exact absurd ((nI_leI (a := 4) (b := s1) (by decide) (by omega)).mp hq) (by omega)
      refine zj_iload_n C (List.mem_of_getElem? (i := 51) rfl) rfl rfl rfl ?_
      refine zj_iload C (List.mem_of_getElem? (i := 52) rfl) rfl rfl ?_
      refine zj_callS (As := [.int (nI k), .int (nI s1)]) (rest := []) C (List.mem_of_getElem? (i := 53) rfl) rfl rfl (Or.inl rfl) (zm_W_mono (zm_placeR_W (s0 := s1) hk (by omega)) (by decide)) rfl rfl (Nat.le_of_ble_eq_true rfl) rfl ⟨rfl, rfl, rfl, rfl⟩ (fun v w2 hw2A hw2Z => ?_)
      obtain ⟨he, hv⟩ := hw2Z
      subst he
      subst hv
      refine zj_iload_n C (List.mem_of_getElem? (i := 54) rfl) rfl rfl rfl ?_
      refine zj_callS (As := [.int (nI (zm_pl k s1)), .int x]) (rest := []) C (List.mem_of_getElem? (i := 55) rfl) rfl rfl (Or.inl rfl) (zm_W_mono (zm_next_W (a := nI (zm_pl k s1)) (b := x)) (by decide)) rfl rfl (Nat.le_of_ble_eq_true rfl) rfl ⟨rfl, rfl, rfl, rfl⟩ (fun v w3 hw3A hw3Z => ?_)
      obtain ⟨he, hv⟩ := hw3Z
      subst he
      subst hv
      have hpl := zm_pl_lt k s1
      rw [nI_toInt (by omega : zm_pl k s1 < 2 ^ 31), hx]
      refine zj_if_eq (tgt := 132) C (List.mem_of_getElem? (i := 56) rfl) rfl (by decide) (fun hd => ?_) (fun hd => ?_)
      · have hd := zm_b0 hd
        refine zj_iinc (k := 0) (v := (nI (s1 + 1))) C (List.mem_of_getElem? (i := 76) rfl) rfl rfl (nI_succ s1).symm (by decide) rfl ?_
        refine zj_goto (tgt := 80) C (List.mem_of_getElem? (i := 77) rfl) (by decide) ?_
        exact ih (s1 + 1) k x L1 m ws1 (by omega) hk hx h11 hB1 hW1 hA1 (fun L2 m2 ws2 e h2 b2 w2 a2 => hK L2 m2 ws2 (by rw [zm_gs, if_neg (fun h => by rw [hd] at h; exact absurd h.1 (by decide))]; exact e) h2 b2 w2 a2)
      have hd := zm_b1 hd
      have hfb := zm_an_b hd (by omega) (by omega)
      obtain ⟨f, hf, hff, rfl⟩ : ∃ f : Nat, f < 5 ∧ (zm_fr k).toNat = f ∧ x = nI f := ⟨x.toInt.toNat, by omega, by rw [← hx], (zx_nat (by omega)).1⟩
      obtain ⟨fy, hfy, hfyv⟩ := hB1
      have hB1 : zm_B tys ws1 272 aY L1 := ⟨fy, hfy, hfyv⟩
      refine zj_aload_n C (List.mem_of_getElem? (i := 57) rfl) rfl rfl rfl ?_
      refine zj_get C (List.mem_of_getElem? (i := 58) rfl) rfl rfl g218 rfl g80 ?_
      refine zj_iload_n C (List.mem_of_getElem? (i := 59) rfl) rfl rfl rfl ?_
      refine zj_iload C (List.mem_of_getElem? (i := 60) rfl) rfl rfl ?_
      refine zj_iload_n C (List.mem_of_getElem? (i := 61) rfl) rfl rfl rfl ?_
      refine zj_callS (As := [.int (nI k), .int (nI s1), .int (nI f)]) (rest := [.ref aY]) C (List.mem_of_getElem? (i := 62) rfl) rfl rfl (Or.inl rfl) (zm_W_mono (zm_moved_W (k := k) (s0 := s1) (f := f) hk (by omega) hf) (by decide)) rfl rfl (Nat.le_of_ble_eq_true rfl) rfl ⟨rfl, rfl, rfl, rfl⟩ (fun v w4 hw4A hw4Z => ?_)
      obtain ⟨he, hv⟩ := hw4Z
      subst he
      subst hv
      have hmd := (zm_md_lt k hk s1 (by omega) f hf).1
      refine zj_zald (v := (zm_b (L1.contains (zm_md k s1 f)))) C (List.mem_of_getElem? (i := 63) rfl) rfl hfy (zm_in hmd (by decide)) (by rw [nI_clamp (by omega)]; exact hfyv _ hmd) ?_
      refine zj_if_eq (tgt := 117) C (List.mem_of_getElem? (i := 64) rfl) rfl (by decide) (fun hd2 => ?_) (fun hd2 => ?_)
      rotate_left
      · have hd2 := zm_b1 hd2
        refine zj_goto (tgt := 132) C (List.mem_of_getElem? (i := 65) rfl) (by decide) ?_
        refine zj_iinc (k := 0) (v := (nI (s1 + 1))) C (List.mem_of_getElem? (i := 76) rfl) rfl rfl (nI_succ s1).symm (by decide) rfl ?_
        refine zj_goto (tgt := 80) C (List.mem_of_getElem? (i := 77) rfl) (by decide) ?_
        exact ih (s1 + 1) k (nI f) L1 m ws1 (by omega) hk hx h11 hB1 hW1 hA1 (fun L2 m2 ws2 e h2 b2 w2 a2 => hK L2 m2 ws2 (by rw [zm_gs, if_neg (fun h => by rw [hff, hd2] at h; exact absurd h.2 (by decide))]; exact e) h2 b2 w2 a2)
      have hd2 := zm_b0 hd2
      refine zj_aload_n C (List.mem_of_getElem? (i := 66) rfl) rfl rfl rfl ?_
      refine zj_get C (List.mem_of_getElem? (i := 67) rfl) rfl rfl g218 rfl g80 ?_
      refine zj_iload_n C (List.mem_of_getElem? (i := 68) rfl) rfl rfl rfl ?_
      refine zj_iload C (List.mem_of_getElem? (i := 69) rfl) rfl rfl ?_
      refine zj_iload_n C (List.mem_of_getElem? (i := 70) rfl) rfl rfl rfl ?_
      refine zj_callS (As := [.int (nI k), .int (nI s1), .int (nI f)]) (rest := [.ref aY]) C (List.mem_of_getElem? (i := 71) rfl) rfl rfl (Or.inl rfl) (zm_W_mono (zm_moved_W (k := k) (s0 := s1) (f := f) hk (by omega) hf) (by decide)) rfl rfl (Nat.le_of_ble_eq_true rfl) rfl ⟨rfl, rfl, rfl, rfl⟩ (fun v w5 hw5A hw5Z => ?_)
      obtain ⟨he, hv⟩ := hw5Z
      subst he
      subst hv
      refine zj_iconst (v := 1) C (List.mem_of_getElem? (i := 72) rfl) rfl (by decide) ?_
      refine zj_zast (y := 1) C (List.mem_of_getElem? (i := 73) rfl) rfl hfy (zm_in hmd (by decide)) (by decide) (fun cA hcA => ?_)
      have hnw6 : ∀ i, i ≠ 272 → (ws1.set 272 (aY, .inl (cA, 625, .inl (upd fy (nI (zm_md k s1 f)).toNatClampNeg 1))))[i]? = ws1[i]? := fun i hi => List.getElem?_set_ne (Ne.symm hi)
      have hAw6 : zx_as (ws1.set 272 (aY, .inl (cA, 625, .inl (upd fy (nI (zm_md k s1 f)).toNatClampNeg 1)))) = zx_as ws1 := zx_as_set hcA
      have hrw6 := zm_row_set (g := upd fy (nI (zm_md k s1 f)).toNatClampNeg 1) hfy hcA
      generalize ws1.set 272 (aY, .inl (cA, 625, .inl (upd fy (nI (zm_md k s1 f)).toNatClampNeg 1))) = w6 at hnw6 hAw6 hrw6 ⊢
      rw [nI_clamp (by omega)] at hrw6
      refine zj_iconst (v := 1) C (List.mem_of_getElem? (i := 74) rfl) rfl (by decide) ?_
      refine zj_istore_n C (List.mem_of_getElem? (i := 75) rfl) rfl rfl (by decide) rfl ?_
      refine zj_iinc (k := 1) (v := (nI (s1 + 1))) C (List.mem_of_getElem? (i := 76) rfl) rfl rfl (nI_succ s1).symm (by decide) rfl ?_
      refine zj_goto (tgt := 80) C (List.mem_of_getElem? (i := 77) rfl) (by decide) ?_
      refine zm_perm (lv' := [(4, .int (nI (s1 + 1))), (3, .int (nI f)), (2, .int (nI k)), (1, .int (zm_b true)), (0, .ref aM)]) C (by repeat first | exact zm_sub_nil | refine zm_sub_cons rfl ?_) ?_
      exact ih (s1 + 1) k (nI f) _ true w6 (by omega) hk hx (zm_cell_keep h11 (hnw6 218 (by decide))) (zm_B_put hrw6 hfyv) (zm_B_keep hW1 (hnw6 273 (by decide))) (hAw6.trans hA1) (fun L2 m2 ws2 e h2 b2 w2 a2 => hK L2 m2 ws2 (by rw [zm_gs, if_pos ⟨hd, by rw [hff]; exact hd2⟩, hff]; exact e) h2 b2 w2 a2)
  have outer : ∀ (N k : Nat) (L1 : List Nat) (m : Bool) (ws1 : va_W), k + N = 625 → zm_cell aM aY aZ ws1 → zm_B tys ws1 272 aY L1 → zm_B tys ws1 273 aZ L → zx_as ws1 = zx_as ws → zm_gk L N k L1 m = zm_go L → zj_go p l e R s mi args below meth c Q D A (zx_mV zx_m205.2.1) 31 [(2, .int (nI k)), (1, .int (zm_b m)), (0, .ref aM)] [] ws1 := by
    intro N
    induction N with
    | zero =>
      intro k L1 m ws1 hj h1 hB1 hW1 hA1 hg
      have hj : k = 625 := by omega
      subst hj
      have h11 := h1
      obtain ⟨fs, g218, gl, g80, g81⟩ := h1
      refine zj_iload_n C (List.mem_of_getElem? (i := 19) rfl) rfl rfl rfl ?_
      refine zj_sipush (v := 625) C (List.mem_of_getElem? (i := 20) rfl) rfl (by decide) ?_
      refine zj_icmp_ge (tgt := 144) C (List.mem_of_getElem? (i := 21) rfl) rfl (by decide) (fun hq => ?_) (fun hq => ?_)
      rotate_left
      · exact absurd (Int32.le_refl _) hq
      refine zj_iload_n C (List.mem_of_getElem? (i := 80) rfl) rfl rfl rfl ?_
      have hg : (L1, m) = zm_go L := hg
      exact KRi 145 _ _ _ (List.mem_of_getElem? (i := 81) rfl) (by decide) (Or.inr ⟨rfl, by cases m; exact Or.inl rfl; exact Or.inr rfl⟩) hA1 ⟨h11, by rw [← hg]; exact hB1, hW1.elim (fun f h => ⟨f, h.1⟩), by rw [← hg]⟩
    | succ N ih =>
      intro k L1 m ws1 hj h1 hB1 hW1 hA1 hg
      have h11 := h1
      obtain ⟨fs, g218, gl, g80, g81⟩ := h1
      refine zj_iload_n C (List.mem_of_getElem? (i := 19) rfl) rfl rfl rfl ?_
      refine zj_sipush (v := 625) C (List.mem_of_getElem? (i := 20) rfl) rfl (by decide) ?_
      refine zj_icmp_ge (tgt := 144) C (List.mem_of_getElem? (i := 21) rfl) rfl (by decide) (fun hq => ?_) (fun hq => ?_)
      · exact absurd ((nI_leI (a := 625) (b := k) (by decide) (by omega)).mp hq) (by omega)
      obtain ⟨fw, hfw, hfwv⟩ := hW1
      have hW1 : zm_B tys ws1 273 aZ L := ⟨fw, hfw, hfwv⟩
      refine zj_aload_n C (List.mem_of_getElem? (i := 22) rfl) rfl rfl rfl ?_
      refine zj_get C (List.mem_of_getElem? (i := 23) rfl) rfl rfl g218 rfl g81 ?_
      refine zj_iload_n C (List.mem_of_getElem? (i := 24) rfl) rfl rfl rfl ?_
      refine zj_zald (v := (zm_b (L.contains k))) C (List.mem_of_getElem? (i := 25) rfl) rfl hfw (zm_in (N := 625) (by omega) (by decide)) (by rw [nI_clamp (by omega)]; exact hfwv _ (by omega)) ?_
      refine zj_if_ne (tgt := 50) C (List.mem_of_getElem? (i := 26) rfl) rfl (by decide) (fun hd => ?_) (fun hd => ?_)
      rotate_left
      · have hd := zm_b0 hd
        refine zj_goto (tgt := 138) C (List.mem_of_getElem? (i := 27) rfl) (by decide) ?_
        refine zj_iinc (k := 0) (v := (nI (k + 1))) C (List.mem_of_getElem? (i := 78) rfl) rfl rfl (nI_succ k).symm (by decide) rfl ?_
        refine zj_goto (tgt := 31) C (List.mem_of_getElem? (i := 79) rfl) (by decide) ?_
        exact ih (k + 1) L1 m ws1 (by omega) h11 hB1 hW1 hA1 (by rw [zm_gk, if_neg (by rw [hd]; decide)] at hg; exact hg)
      have hd := zm_b1 hd
      have f0 : (10 : Int32).toInt = 10 := rfl
      refine zj_bipush (v := 10) C (List.mem_of_getElem? (i := 28) rfl) rfl (by decide) ?_
      refine zj_iload_n C (List.mem_of_getElem? (i := 29) rfl) rfl rfl rfl ?_
      refine zj_iconst (v := 0) C (List.mem_of_getElem? (i := 30) rfl) rfl (by decide) ?_
      refine zj_callS (As := [.int (nI k), .int (nI 0)]) (rest := [.int 10]) C (List.mem_of_getElem? (i := 31) rfl) rfl rfl (Or.inl rfl) (zm_W_mono (zm_placeR_W (k := k) (s0 := 0) (by omega) (by decide)) (by decide)) rfl rfl (Nat.le_of_ble_eq_true rfl) rfl ⟨rfl, rfl, rfl, rfl⟩ (fun v v0 hv0A hv0Z => ?_)
      obtain ⟨he, hv⟩ := hv0Z
      subst he
      subst hv
      have f1 := zm_sub3 f0 (by have := zm_pl_lt k 0; have := zm_pl_lt k 1; have := zm_pl_lt k 2; have := zm_pl_lt k 3; omega) (zm_pl_lt k 0)
      refine zj_isub (v := (10 - nI (zm_pl k 0))) C (List.mem_of_getElem? (i := 32) rfl) rfl rfl ?_
      refine zj_iload_n C (List.mem_of_getElem? (i := 33) rfl) rfl rfl rfl ?_
      refine zj_iconst (v := 1) C (List.mem_of_getElem? (i := 34) rfl) rfl (by decide) ?_
      refine zj_callS (As := [.int (nI k), .int (nI 1)]) (rest := [.int (10 - nI (zm_pl k 0))]) C (List.mem_of_getElem? (i := 35) rfl) rfl rfl (Or.inl rfl) (zm_W_mono (zm_placeR_W (k := k) (s0 := 1) (by omega) (by decide)) (by decide)) rfl rfl (Nat.le_of_ble_eq_true rfl) rfl ⟨rfl, rfl, rfl, rfl⟩ (fun v v1 hv1A hv1Z => ?_)
      obtain ⟨he, hv⟩ := hv1Z
      subst he
      subst hv
      have f2 := zm_sub3 f1 (by have := zm_pl_lt k 0; have := zm_pl_lt k 1; have := zm_pl_lt k 2; have := zm_pl_lt k 3; omega) (zm_pl_lt k 1)
      refine zj_isub (v := ((10 - nI (zm_pl k 0)) - nI (zm_pl k 1))) C (List.mem_of_getElem? (i := 36) rfl) rfl rfl ?_
      refine zj_iload_n C (List.mem_of_getElem? (i := 37) rfl) rfl rfl rfl ?_
      refine zj_iconst (v := 2) C (List.mem_of_getElem? (i := 38) rfl) rfl (by decide) ?_
      refine zj_callS (As := [.int (nI k), .int (nI 2)]) (rest := [.int ((10 - nI (zm_pl k 0)) - nI (zm_pl k 1))]) C (List.mem_of_getElem? (i := 39) rfl) rfl rfl (Or.inl rfl) (zm_W_mono (zm_placeR_W (k := k) (s0 := 2) (by omega) (by decide)) (by decide)) rfl rfl (Nat.le_of_ble_eq_true rfl) rfl ⟨rfl, rfl, rfl, rfl⟩ (fun v v2 hv2A hv2Z => ?_)
      obtain ⟨he, hv⟩ := hv2Z
      subst he
      subst hv
      have f3 := zm_sub3 f2 (by have := zm_pl_lt k 0; have := zm_pl_lt k 1; have := zm_pl_lt k 2; have := zm_pl_lt k 3; omega) (zm_pl_lt k 2)
      refine zj_isub (v := (((10 - nI (zm_pl k 0)) - nI (zm_pl k 1)) - nI (zm_pl k 2))) C (List.mem_of_getElem? (i := 40) rfl) rfl rfl ?_
      refine zj_iload_n C (List.mem_of_getElem? (i := 41) rfl) rfl rfl rfl ?_
      refine zj_iconst (v := 3) C (List.mem_of_getElem? (i := 42) rfl) rfl (by decide) ?_
      refine zj_callS (As := [.int (nI k), .int (nI 3)]) (rest := [.int (((10 - nI (zm_pl k 0)) - nI (zm_pl k 1)) - nI (zm_pl k 2))]) C (List.mem_of_getElem? (i := 43) rfl) rfl rfl (Or.inl rfl) (zm_W_mono (zm_placeR_W (k := k) (s0 := 3) (by omega) (by decide)) (by decide)) rfl rfl (Nat.le_of_ble_eq_true rfl) rfl ⟨rfl, rfl, rfl, rfl⟩ (fun v v3 hv3A hv3Z => ?_)
      obtain ⟨he, hv⟩ := hv3Z
      subst he
      subst hv
      have f4 := zm_sub3 f3 (by have := zm_pl_lt k 0; have := zm_pl_lt k 1; have := zm_pl_lt k 2; have := zm_pl_lt k 3; omega) (zm_pl_lt k 3)
      refine zj_isub (v := ((((10 - nI (zm_pl k 0)) - nI (zm_pl k 1)) - nI (zm_pl k 2)) - nI (zm_pl k 3))) C (List.mem_of_getElem? (i := 44) rfl) rfl rfl ?_
      refine zj_istore_n C (List.mem_of_getElem? (i := 45) rfl) rfl rfl (by decide) rfl ?_
      refine zj_iconst (v := 0) C (List.mem_of_getElem? (i := 46) rfl) rfl (by decide) ?_
      refine zj_istore C (List.mem_of_getElem? (i := 47) rfl) rfl (by decide) rfl ?_
      refine inner 4 0 k _ L1 m ws1 rfl (by omega) f4 h11 hB1 hW1 hA1 (fun L2 m2 ws2 e h2 b2 w2 a2 => ?_)
      refine zj_iinc (k := 0) (v := (nI (k + 1))) C (List.mem_of_getElem? (i := 78) rfl) rfl rfl (nI_succ k).symm (by decide) rfl ?_
      refine zj_goto (tgt := 31) C (List.mem_of_getElem? (i := 79) rfl) (by decide) ?_
      exact ih (k + 1) L2 m2 ws2 (by omega) h2 b2 w2 a2 (by rw [zm_gk, if_pos hd, e] at hg; exact hg)
  have copy : ∀ (N j : Nat) (fw : Nat → Int32) (ws1 : va_W), j + N = 625 → zm_cell aM aY aZ ws1 → zm_B tys ws1 272 aY L → zj_row tys ws1 273 aZ 625 .boolean fw → (∀ x, x < j → fw x = zm_b (L.contains x)) → zx_as ws1 = zx_as ws → zj_go p l e R s mi args below meth c Q D A (zx_mV zx_m205.2.1) 2 [(1, .int (nI j)), (0, .ref aM)] [] ws1 := by
    intro N
    induction N with
    | zero =>
      intro j fw ws1 hj h1 hB1 hfw hz hA1
      have hj : j = 625 := by omega
      subst hj
      have h11 := h1
      obtain ⟨fs, g218, gl, g80, g81⟩ := h1
      refine zj_iload_n C (List.mem_of_getElem? (i := 2) rfl) rfl rfl rfl ?_
      refine zj_sipush (v := 625) C (List.mem_of_getElem? (i := 3) rfl) rfl (by decide) ?_
      refine zj_icmp_ge (tgt := 27) C (List.mem_of_getElem? (i := 4) rfl) rfl (by decide) (fun hq => ?_) (fun hq => ?_)
      rotate_left
      · exact absurd (Int32.le_refl _) hq
      refine zj_iconst (v := 0) C (List.mem_of_getElem? (i := 15) rfl) rfl (by decide) ?_
      refine zj_istore_n C (List.mem_of_getElem? (i := 16) rfl) rfl rfl (by decide) rfl ?_
      refine zj_iconst (v := 0) C (List.mem_of_getElem? (i := 17) rfl) rfl (by decide) ?_
      refine zj_istore_n C (List.mem_of_getElem? (i := 18) rfl) rfl rfl (by decide) rfl ?_
      exact outer 625 0 L false ws1 rfl h11 hB1 ⟨fw, hfw, hz⟩ hA1 rfl
    | succ N ih =>
      intro j fw ws1 hj h1 hB1 hfw hz hA1
      have h11 := h1
      obtain ⟨fs, g218, gl, g80, g81⟩ := h1
      refine zj_iload_n C (List.mem_of_getElem? (i := 2) rfl) rfl rfl rfl ?_
      refine zj_sipush (v := 625) C (List.mem_of_getElem? (i := 3) rfl) rfl (by decide) ?_
      refine zj_icmp_ge (tgt := 27) C (List.mem_of_getElem? (i := 4) rfl) rfl (by decide) (fun hq => ?_) (fun hq => ?_)
      · exact absurd ((nI_leI (a := 625) (b := j) (by decide) (by omega)).mp hq) (by omega)
      obtain ⟨fy, hfy, hfyv⟩ := hB1
      have hB1 : zm_B tys ws1 272 aY L := ⟨fy, hfy, hfyv⟩
      refine zj_aload_n C (List.mem_of_getElem? (i := 5) rfl) rfl rfl rfl ?_
      refine zj_get C (List.mem_of_getElem? (i := 6) rfl) rfl rfl g218 rfl g81 ?_
      refine zj_iload_n C (List.mem_of_getElem? (i := 7) rfl) rfl rfl rfl ?_
      refine zj_aload_n C (List.mem_of_getElem? (i := 8) rfl) rfl rfl rfl ?_
      refine zj_get C (List.mem_of_getElem? (i := 9) rfl) rfl rfl g218 rfl g80 ?_
      refine zj_iload_n C (List.mem_of_getElem? (i := 10) rfl) rfl rfl rfl ?_
      refine zj_zald (v := (zm_b (L.contains j))) C (List.mem_of_getElem? (i := 11) rfl) rfl hfy (zm_in (N := 625) (by omega) (by decide)) (by rw [nI_clamp (by omega)]; exact hfyv _ (by omega)) ?_
      refine zj_zast (y := zm_b (L.contains j)) C (List.mem_of_getElem? (i := 12) rfl) rfl hfw (zm_in (N := 625) (by omega) (by decide)) (by cases L.contains j <;> decide) (fun cA hcA => ?_)
      have hnw2 : ∀ i, i ≠ 273 → (ws1.set 273 (aZ, .inl (cA, 625, .inl (upd fw (nI j).toNatClampNeg (zm_b (L.contains j))))))[i]? = ws1[i]? := fun i hi => List.getElem?_set_ne (Ne.symm hi)
      have hAw2 : zx_as (ws1.set 273 (aZ, .inl (cA, 625, .inl (upd fw (nI j).toNatClampNeg (zm_b (L.contains j)))))) = zx_as ws1 := zx_as_set hcA
      have hrw2 := zm_row_set (g := upd fw (nI j).toNatClampNeg (zm_b (L.contains j))) hfw hcA
      generalize ws1.set 273 (aZ, .inl (cA, 625, .inl (upd fw (nI j).toNatClampNeg (zm_b (L.contains j))))) = w2 at hnw2 hAw2 hrw2 ⊢
      refine zj_iinc (k := 0) (v := (nI (j + 1))) C (List.mem_of_getElem? (i := 13) rfl) rfl rfl (nI_succ j).symm (by decide) rfl ?_
      refine zj_goto (tgt := 2) C (List.mem_of_getElem? (i := 14) rfl) (by decide) ?_
      refine ih (j + 1) _ w2 (by omega) (zm_cell_keep h11 (hnw2 218 (by decide))) (zm_B_keep hB1 (hnw2 272 (by decide))) hrw2 (fun x hx => ?_) (hAw2.trans hA1)
      rw [nI_clamp (by omega)]
      by_cases h : x = j
      · subst h
        simp [upd]
      · have h2 : upd fw j (zm_b (L.contains j)) x = fw x := by simp [upd, h]
        rw [h2]
        exact hz x (by omega)
  refine zj_iconst (v := 0) C (List.mem_of_getElem? (i := 0) rfl) rfl (by decide) ?_
  refine zj_istore_n C (List.mem_of_getElem? (i := 1) rfl) rfl rfl (by decide) rfl ?_
  exact copy 625 0 fz ws rfl hc hB hfz (fun x hx => absurd hx (Nat.not_lt_zero _)) rfl
theorem zm_can_W {l : Launch} {tys : List (ClassId × FieldType)} {ex : List Nat} {ws0 : va_W} {aM aY aZ : Nat} {L : List Nat} {set : Nat} (hs : set < 4) (hc : zm_cell aM aY aZ ws0) (hB : zm_B tys ws0 272 aY L) : zj_W l 2 203 (zm_X ex tys [.ref aM, .int (nI set)] ws0) (fun _ _ _ v ws' => ws0 = ws' ∧ ((v = some (.int 1) ∧ zm_can set L 625 0 = true) ∨ (v = some (.int 0) ∧ zm_can set L 625 0 = false))) := by
  refine zj_enterW (md := zx_m203) rfl rfl ?_ ?_
  · rintro ex tys av ws ⟨-, -, rfl, -⟩
    exact Nat.le_of_ble_eq_true rfl
  intro p e R s mi args below meth c Q D A ex nL own cc tys ws av hX C hnL KRi KRv KRa
  subst hnL
  obtain ⟨h1, h2, h3, h4⟩ := hX
  subst h1
  subst h2
  subst h3
  subst h4
  obtain ⟨fs, g218, gl, g80, g81⟩ := hc
  obtain ⟨fy, hfy, hfyv⟩ := hB
  have loop : ∀ (N j : Nat), j + N = 625 → zm_can set L N j = zm_can set L 625 0 → zj_go p l e R s mi args below meth c Q D A (zx_mV zx_m203.2.1) 2 [(2, .int (nI j)), (0, .ref aM), (1, .int (nI set))] [] ws := by
    intro N
    induction N with
    | zero =>
      intro j hj hg
      have hj : j = 625 := by omega
      subst hj
      refine zj_iload_n C (List.mem_of_getElem? (i := 2) rfl) rfl rfl rfl ?_
      refine zj_sipush (v := 625) C (List.mem_of_getElem? (i := 3) rfl) rfl (by decide) ?_
      refine zj_icmp_ge (tgt := 34) C (List.mem_of_getElem? (i := 4) rfl) rfl (by decide) (fun hq => ?_) (fun hq => ?_)
      rotate_left
      · exact absurd (Int32.le_refl _) hq
      refine zj_iconst (v := 0) C (List.mem_of_getElem? (i := 18) rfl) rfl (by decide) ?_
      exact KRi 35 _ _ _ (List.mem_of_getElem? (i := 19) rfl) (by decide) (Or.inr ⟨rfl, Or.inl rfl⟩) rfl ⟨rfl, Or.inr ⟨rfl, by rw [← hg]; rfl⟩⟩
    | succ N ih =>
      intro j hj hg
      refine zj_iload_n C (List.mem_of_getElem? (i := 2) rfl) rfl rfl rfl ?_
      refine zj_sipush (v := 625) C (List.mem_of_getElem? (i := 3) rfl) rfl (by decide) ?_
      refine zj_icmp_ge (tgt := 34) C (List.mem_of_getElem? (i := 4) rfl) rfl (by decide) (fun hq => ?_) (fun hq => ?_)
      · exact absurd ((nI_leI (a := 625) (b := j) (by decide) (by omega)).mp hq) (by omega)
      refine zj_aload_n C (List.mem_of_getElem? (i := 5) rfl) rfl rfl rfl ?_
      refine zj_get C (List.mem_of_getElem? (i := 6) rfl) rfl rfl g218 rfl g80 ?_
      refine zj_iload_n C (List.mem_of_getElem? (i := 7) rfl) rfl rfl rfl ?_
      refine zj_zald (v := (zm_b (L.contains j))) C (List.mem_of_getElem? (i := 8) rfl) rfl hfy (zm_in (N := 625) (by omega) (by decide)) (by rw [nI_clamp (by omega)]; exact hfyv _ (by omega)) ?_
      refine zj_if_eq (tgt := 28) C (List.mem_of_getElem? (i := 9) rfl) rfl (by decide) (fun hd => ?_) (fun hd => ?_)
      · have hd := zm_b0 hd
        refine zj_iinc (k := 0) (v := (nI (j + 1))) C (List.mem_of_getElem? (i := 16) rfl) rfl rfl (nI_succ j).symm (by decide) rfl ?_
        refine zj_goto (tgt := 2) C (List.mem_of_getElem? (i := 17) rfl) (by decide) ?_
        exact ih (j + 1) (by omega) (by rw [zm_can, if_neg (fun h => by rw [hd] at h; exact absurd h.1 (by decide))] at hg; exact hg)
      have hd := zm_b1 hd
      refine zj_iload_n C (List.mem_of_getElem? (i := 10) rfl) rfl rfl rfl ?_
      refine zj_iload_n C (List.mem_of_getElem? (i := 11) rfl) rfl rfl rfl ?_
      refine zj_callS (As := [.int (nI j), .int (nI set)]) (rest := []) C (List.mem_of_getElem? (i := 12) rfl) rfl rfl (Or.inl rfl) (zm_W_mono (zm_placeR_W (k := j) (s0 := set) (by omega) hs) (by decide)) rfl rfl (Nat.le_of_ble_eq_true rfl) rfl ⟨rfl, rfl, rfl, rfl⟩ (fun v w3 hw3A hw3Z => ?_)
      obtain ⟨he, hv⟩ := hw3Z
      subst he
      subst hv
      have hpl := zm_pl_lt j set
      refine zj_if_ne (tgt := 28) C (List.mem_of_getElem? (i := 13) rfl) rfl (by decide) (fun hq2 => ?_) (fun hq2 => ?_)
      · have hne : ¬ zm_pl j set = 0 := fun h => hq2 (by rw [h]; rfl)
        refine zj_iinc (k := 0) (v := (nI (j + 1))) C (List.mem_of_getElem? (i := 16) rfl) rfl rfl (nI_succ j).symm (by decide) rfl ?_
        refine zj_goto (tgt := 2) C (List.mem_of_getElem? (i := 17) rfl) (by decide) ?_
        exact ih (j + 1) (by omega) (by rw [zm_can, if_neg (fun h => hne h.2)] at hg; exact hg)
      have hz : zm_pl j set = 0 := by
        have h1 := congrArg Int32.toInt hq2
        rw [nI_toInt (by omega)] at h1
        have h2 : (0 : Int32).toInt = 0 := rfl
        omega
      refine zj_iconst (v := 1) C (List.mem_of_getElem? (i := 14) rfl) rfl (by decide) ?_
      exact KRi 27 _ _ _ (List.mem_of_getElem? (i := 15) rfl) (by decide) (Or.inr ⟨rfl, Or.inr rfl⟩) rfl ⟨rfl, Or.inl ⟨rfl, by rw [← hg, zm_can, if_pos ⟨hd, hz⟩]⟩⟩
  refine zj_iconst (v := 0) C (List.mem_of_getElem? (i := 0) rfl) rfl (by decide) ?_
  refine zj_istore_n C (List.mem_of_getElem? (i := 1) rfl) rfl rfl (by decide) rfl ?_
  exact loop 625 0 rfl rfl
def zm_ansR (x y : Int32) : Int := if (0 ≤ x.toInt ∧ x.toInt ≤ 3) ∧ (0 ≤ y.toInt ∧ y.toInt ≤ 40) then zm_fewR x.toInt.toNat y.toInt.toNat 42 0 [430] else -1
theorem zm_ans_eq (x y : Int32) : zm_ans x y = zm_ansR x y := by
  unfold zm_ans zm_ansR
  split
  · rename_i h
    exact zm_same _ (by omega) _ (by omega)
  · rfl
set_option maxHeartbeats 2000000 in
theorem zm_movesR_W {l : Launch} {tys : List (ClassId × FieldType)} {ex : List Nat} {ws0 : va_W} {aM aY aZ : Nat} {x y : Int32} (hc : zm_cell aM aY aZ ws0) (h0 : ∃ f, zj_row tys ws0 272 aY 625 .boolean f) (hz : ∃ f, zj_row tys ws0 273 aZ 625 .boolean f) : zj_W l 5 201 (zm_X ex tys [.ref aM, .int x, .int y] ws0) (fun _ _ _ v _ => ∃ a : Int32, v = some (.int a) ∧ a.toInt = zm_ansR x y) := by
  refine zj_enterW (md := zx_m201) rfl rfl ?_ ?_
  · rintro ex tys av ws ⟨-, -, rfl, -⟩
    exact Nat.le_of_ble_eq_true rfl
  intro p e R s mi args below meth c Q D A ex nL own cc tys ws av hX C hnL KRi KRv KRa
  subst hnL
  obtain ⟨h1, h2, h3, h4⟩ := hX
  subst h1
  subst h2
  subst h3
  subst h4
  have e0 : (0 : Int32).toInt = 0 := rfl
  have e3 : (3 : Int32).toInt = 3 := rfl
  have e40 : (40 : Int32).toInt = 40 := rfl
  obtain ⟨fs, g218, gl, g80, g81⟩ := hc
  refine zj_aload_n C (List.mem_of_getElem? (i := 0) rfl) rfl rfl rfl ?_
  refine zj_iconst (v := 0) C (List.mem_of_getElem? (i := 1) rfl) rfl (by decide) ?_
  refine zj_put C (List.mem_of_getElem? (i := 2) rfl) rfl rfl g218 rfl (by rw [gl]; decide) rfl (zm_fit_i rfl _) ?_
  have hnw2 : ∀ i, i ≠ 218 → (ws.set 218 (aM, .inr (11, fs.set 0 (.int 0))))[i]? = ws[i]? := fun i hi => List.getElem?_set_ne (Ne.symm hi)
  have hAw2 : zx_as (ws.set 218 (aM, .inr (11, fs.set 0 (.int 0)))) = zx_as ws := zx_as_set g218
  have hsw2 : (ws.set 218 (aM, .inr (11, fs.set 0 (.int 0))))[218]? = some (aM, .inr (11, fs.set 0 (.int 0))) := zm_set_self g218
  show zj_go p l e R s mi args below meth c Q D A _ _ _ _ (ws.set 218 (aM, .inr (11, fs.set 0 (.int 0))))
  generalize ws.set 218 (aM, .inr (11, fs.set 0 (.int 0))) = w2 at hnw2 hAw2 hsw2 ⊢
  have hc2 : zm_cell aM aY aZ w2 := ⟨_, hsw2, by rw [List.length_set]; exact gl, (List.getElem?_set_ne (by decide)).trans g80, (List.getElem?_set_ne (by decide)).trans g81⟩
  have h02 : ∃ f, zj_row tys w2 272 aY 625 .boolean f := h0.elim (fun f h => ⟨f, zm_row_keep h (hnw2 272 (by decide))⟩)
  have hz2 : ∃ f, zj_row tys w2 273 aZ 625 .boolean f := hz.elim (fun f h => ⟨f, zm_row_keep h (hnw2 273 (by decide))⟩)
  refine zj_iload_n C (List.mem_of_getElem? (i := 3) rfl) rfl rfl rfl ?_
  refine zj_iconst (v := 0) C (List.mem_of_getElem? (i := 4) rfl) rfl (by decide) ?_
  refine zj_iconst (v := 3) C (List.mem_of_getElem? (i := 5) rfl) rfl (by decide) ?_
  refine zj_callS (As := [.int x, .int 0, .int 3]) (rest := []) C (List.mem_of_getElem? (i := 6) rfl) rfl rfl (Or.inl rfl) (zm_W_mono (zm_isIn_W (x := x) (lo := 0) (hi := 3)) (by decide)) rfl rfl (Nat.le_of_ble_eq_true rfl) rfl ⟨rfl, rfl, rfl, rfl⟩ (fun v w3 hw3A hw3Z => ?_)
  obtain ⟨he, hv⟩ := hw3Z
  subst he
  rw [e0, e3] at hv
  rcases hv with ⟨hv, hc1⟩ | ⟨hv, hc1⟩
  rotate_left
  · subst hv
    refine zj_if_eq (tgt := 24) C (List.mem_of_getElem? (i := 7) rfl) rfl (by decide) (fun hd => ?_) (fun hd => ?_)
    rotate_left
    · exact absurd rfl hd
    refine zj_iconst (v := (-1)) C (List.mem_of_getElem? (i := 13) rfl) rfl (by decide) ?_
    exact KRi 25 _ _ _ (List.mem_of_getElem? (i := 14) rfl) (by decide) (Or.inl rfl) hAw2 ⟨_, rfl, by unfold zm_ansR; rw [if_neg (fun h => hc1 h.1)]; rfl⟩
  subst hv
  refine zj_if_eq (tgt := 24) C (List.mem_of_getElem? (i := 7) rfl) rfl (by decide) (fun hd => ?_) (fun hd => ?_)
  · exact absurd hd (by decide)
  refine zj_iload_n C (List.mem_of_getElem? (i := 8) rfl) rfl rfl rfl ?_
  refine zj_iconst (v := 0) C (List.mem_of_getElem? (i := 9) rfl) rfl (by decide) ?_
  refine zj_bipush (v := 40) C (List.mem_of_getElem? (i := 10) rfl) rfl (by decide) ?_
  refine zj_callS (As := [.int y, .int 0, .int 40]) (rest := []) C (List.mem_of_getElem? (i := 11) rfl) rfl rfl (Or.inl rfl) (zm_W_mono (zm_isIn_W (x := y) (lo := 0) (hi := 40)) (by decide)) rfl rfl (Nat.le_of_ble_eq_true rfl) rfl ⟨rfl, rfl, rfl, rfl⟩ (fun v w4 hw4A hw4Z => ?_)
  obtain ⟨he, hv⟩ := hw4Z
  subst he
  rw [e0, e40] at hv
  rcases hv with ⟨hv, hc3⟩ | ⟨hv, hc3⟩
  rotate_left
  · subst hv
    refine zj_if_ne (tgt := 26) C (List.mem_of_getElem? (i := 12) rfl) rfl (by decide) (fun hd => ?_) (fun hd => ?_)
    · exact absurd rfl hd
    refine zj_iconst (v := (-1)) C (List.mem_of_getElem? (i := 13) rfl) rfl (by decide) ?_
    exact KRi 25 _ _ _ (List.mem_of_getElem? (i := 14) rfl) (by decide) (Or.inl rfl) hAw2 ⟨_, rfl, by unfold zm_ansR; rw [if_neg (fun h => hc3 h.2)]; rfl⟩
  subst hv
  refine zj_if_ne (tgt := 26) C (List.mem_of_getElem? (i := 12) rfl) rfl (by decide) (fun hd => ?_) (fun hd => ?_)
  rotate_left
  · exact absurd hd (by decide)
  obtain ⟨set, hs, hsx, rfl⟩ : ∃ set : Nat, set < 4 ∧ x.toInt.toNat = set ∧ x = nI set := ⟨x.toInt.toNat, by omega, rfl, (zx_nat hc1.1).1⟩
  obtain ⟨most, hm, hmy, rfl⟩ : ∃ most : Nat, most < 41 ∧ y.toInt.toNat = most ∧ y = nI most := ⟨y.toInt.toNat, by omega, rfl, (zx_nat hc3.1).1⟩
  have hans : zm_ansR (nI set) (nI most) = zm_fewR set most 42 0 [430] := by unfold zm_ansR; rw [if_pos ⟨hc1, hc3⟩, hsx, hmy]
  have loop : ∀ (N j : Nat) (L : List Nat) (ws1 : va_W), j + N = 42 → zm_cell aM aY aZ ws1 → zm_B tys ws1 272 aY L → (∃ f, zj_row tys ws1 273 aZ 625 .boolean f) → zx_as ws1 = zx_as ws → zm_fewR set most N j L = zm_ansR (nI set) (nI most) → zj_go p l e R s mi args below meth c Q D A (zx_mV zx_m201.2.1) 32 [(3, .int (nI j)), (0, .ref aM), (1, .int (nI set)), (2, .int (nI most))] [] ws1 := by
    intro N
    induction N with
    | zero =>
      intro j L ws1 hj hcl hB1 hz1 hA1 hf
      refine zj_iload_n C (List.mem_of_getElem? (i := 19) rfl) rfl rfl rfl ?_
      refine zj_iload_n C (List.mem_of_getElem? (i := 20) rfl) rfl rfl rfl ?_
      refine zj_icmp_gt (tgt := 62) C (List.mem_of_getElem? (i := 21) rfl) rfl (by decide) (fun hq => ?_) (fun hq => ?_)
      · have hq : most < j := (nI_ltI (a := most) (b := j) (by omega) (by omega)).mp hq
        refine zj_iconst (v := (-1)) C (List.mem_of_getElem? (i := 35) rfl) rfl (by decide) ?_
        exact KRi 63 _ _ _ (List.mem_of_getElem? (i := 36) rfl) (by decide) (Or.inl rfl) hA1 ⟨_, rfl, by rw [← hf]; rfl⟩
      have hq : ¬ most < j := fun h => hq ((nI_ltI (a := most) (b := j) (by omega) (by omega)).mpr h)
      omega
    | succ N ih =>
      intro j L ws1 hj hcl hB1 hz1 hA1 hf
      refine zj_iload_n C (List.mem_of_getElem? (i := 19) rfl) rfl rfl rfl ?_
      refine zj_iload_n C (List.mem_of_getElem? (i := 20) rfl) rfl rfl rfl ?_
      refine zj_icmp_gt (tgt := 62) C (List.mem_of_getElem? (i := 21) rfl) rfl (by decide) (fun hq => ?_) (fun hq => ?_)
      · have hq : most < j := (nI_ltI (a := most) (b := j) (by omega) (by omega)).mp hq
        refine zj_iconst (v := (-1)) C (List.mem_of_getElem? (i := 35) rfl) rfl (by decide) ?_
        exact KRi 63 _ _ _ (List.mem_of_getElem? (i := 36) rfl) (by decide) (Or.inl rfl) hA1 ⟨_, rfl, by rw [← hf, zm_fewR, if_pos hq]; rfl⟩
      have hq : ¬ most < j := fun h => hq ((nI_ltI (a := most) (b := j) (by omega) (by omega)).mpr h)
      obtain ⟨fsl, gsl, -, -, -⟩ := id hcl
      refine zj_aload_n C (List.mem_of_getElem? (i := 22) rfl) rfl rfl rfl ?_
      refine zj_iload_n C (List.mem_of_getElem? (i := 23) rfl) rfl rfl rfl ?_
      refine zj_callV (As := [.int (nI set)]) (rest := []) C (List.mem_of_getElem? (i := 24) rfl) rfl rfl rfl (by decide) (zm_W_mono (zm_can_W hs hcl hB1) (by decide)) rfl rfl gsl rfl (Nat.le_of_ble_eq_true rfl) rfl ⟨rfl, rfl, rfl, rfl⟩ (fun v w5 hw5A hw5Z => ?_)
      obtain ⟨he, hv⟩ := hw5Z
      subst he
      rcases hv with ⟨hv, hsh⟩ | ⟨hv, hsh⟩
      · subst hv
        refine zj_if_eq (tgt := 47) C (List.mem_of_getElem? (i := 25) rfl) rfl (by decide) (fun hd => ?_) (fun hd => ?_)
        · exact absurd hd (by decide)
        refine zj_iload_n C (List.mem_of_getElem? (i := 26) rfl) rfl rfl rfl ?_
        exact KRi 46 _ _ _ (List.mem_of_getElem? (i := 27) rfl) (by decide) (Or.inl rfl) hA1 ⟨_, rfl, by rw [← hf, zm_fewR, if_neg hq, if_pos hsh, nI_toInt (by omega)]⟩
      · subst hv
        refine zj_if_eq (tgt := 47) C (List.mem_of_getElem? (i := 25) rfl) rfl (by decide) (fun hd => ?_) (fun hd => ?_)
        rotate_left
        · exact absurd rfl hd
        refine zj_aload_n C (List.mem_of_getElem? (i := 28) rfl) rfl rfl rfl ?_
        refine zj_callV (As := []) (rest := []) C (List.mem_of_getElem? (i := 29) rfl) rfl rfl rfl (by decide) (zm_W_mono (zm_goOn_W hcl hB1 hz1) (by decide)) rfl rfl gsl rfl (Nat.le_of_ble_eq_true rfl) rfl ⟨rfl, rfl, rfl, rfl⟩ (fun v w6 hw6A hw6Z => ?_)
        obtain ⟨k1, k2, k3, hv⟩ := hw6Z
        subst hv
        rw [zm_fewR, if_neg hq, if_neg (by rw [hsh]; decide)] at hf
        generalize zm_go L = G6 at k2 hf ⊢
        obtain ⟨L6, m6⟩ := G6
        refine zj_if_ne (tgt := 56) C (List.mem_of_getElem? (i := 30) rfl) rfl (by decide) (fun hd => ?_) (fun hd => ?_)
        rotate_left
        · have hd := zm_b0 hd
          have hd : m6 = false := hd
          subst hd
          refine zj_iconst (v := (-1)) C (List.mem_of_getElem? (i := 31) rfl) rfl (by decide) ?_
          exact KRi 55 _ _ _ (List.mem_of_getElem? (i := 32) rfl) (by decide) (Or.inl rfl) (hw6A.trans hA1) ⟨_, rfl, by rw [← hf]; rfl⟩
        have hd : m6 = true := zm_b1 hd
        subst hd
        refine zj_iinc (k := 0) (v := (nI (j + 1))) C (List.mem_of_getElem? (i := 33) rfl) rfl rfl (nI_succ j).symm (by decide) rfl ?_
        refine zj_goto (tgt := 32) C (List.mem_of_getElem? (i := 34) rfl) (by decide) ?_
        exact ih (j + 1) L6 w6 (by omega) k1 k2 k3 (hw6A.trans hA1) hf
  refine zj_aload_n C (List.mem_of_getElem? (i := 15) rfl) rfl rfl rfl ?_
  refine zj_callV (As := []) (rest := []) C (List.mem_of_getElem? (i := 16) rfl) rfl rfl rfl (by decide) (zm_W_mono (zm_first_W hc2 h02 hz2) (by decide)) rfl rfl hsw2 rfl (Nat.le_of_ble_eq_true rfl) rfl ⟨rfl, rfl, rfl, rfl⟩ (fun v w7 hw7A hw7Z => ?_)
  obtain ⟨hv, k1, k2, k3⟩ := hw7Z
  subst hv
  refine zj_iconst (v := 0) C (List.mem_of_getElem? (i := 17) rfl) rfl (by decide) ?_
  refine zj_istore_n C (List.mem_of_getElem? (i := 18) rfl) rfl rfl (by decide) rfl ?_
  exact loop 42 0 [430] w7 rfl k1 k2 k3 (hw7A.trans hAw2) hans.symm
end
