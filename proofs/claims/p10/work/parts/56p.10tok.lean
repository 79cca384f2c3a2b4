noncomputable section
/-! zj: how the reference tells its tokens -/
def zj_ch (k j : Nat) : Nat := (zx_txt.getD k []).getD j 0
def zj_ln (k : Nat) : Nat := (zx_txt.getD k []).length
def zj_wc (k : Nat) : Int64 := Int64.ofInt (zj_wd (fun j => (zj_ch k j : Int)) 0 (zj_ln k))
def zj_sc (k : Nat) : Int32 := Int32.ofNat (zj_ch k 0)
def zj_tok (tk : zj_T) (tok nu : Int32) (wd : Int64) : Prop := (∀ k, k < 21 → ((tok = 1 ∧ wd = zj_wc k) ↔ tk.1 = k)) ∧ (∀ k, 21 ≤ k → k < 27 → ((tok = 3 ∧ nu = zj_sc k) ↔ tk.1 = k)) ∧ (tok = 2 ↔ tk.1 = 27) ∧ (tok = 0 ↔ tk.1 = 28) ∧ (tk.1 = 27 → nu.toInt = tk.2.1)
theorem zj_fd_some {g : Nat → Int} {q n : Nat} : ∀ (m k r : Nat), zj_fd g q n m k = r → r = 29 ∨ (k ≤ r ∧ r < k + m ∧ 0 < n ∧ zj_like g q n (zx_txt.getD r []) = true)
  | 0, k, r, h => by
    rw [zj_fd] at h
    exact Or.inl h.symm
  | m + 1, k, r, h => by
    rw [zj_fd] at h
    split at h
    · rename_i hk
      subst h
      exact Or.inr ⟨Nat.le_refl _, by omega, hk⟩
    · rcases zj_fd_some m (k + 1) r h with h1 | ⟨h1, h2, h3⟩
      · exact Or.inl h1
      · exact Or.inr ⟨by omega, by omega, h3⟩
theorem zj_fd_hit {g : Nat → Int} {q n j : Nat} (hn : 0 < n) (hj : zj_like g q n (zx_txt.getD j []) = true) : ∀ (m k : Nat), k ≤ j → j < k + m → k ≤ zj_fd g q n m k ∧ zj_fd g q n m k ≤ j ∧ zj_like g q n (zx_txt.getD (zj_fd g q n m k) []) = true
  | 0, k, h1, h2 => by omega
  | m + 1, k, h1, h2 => by
    rw [zj_fd]
    split
    · rename_i hk
      exact ⟨Nat.le_refl _, h1, hk.2⟩
    · rename_i hk
      have hne : k ≠ j := fun h => hk (by rw [h]; exact ⟨hn, hj⟩)
      obtain ⟨h3, h4, h5⟩ := zj_fd_hit hn hj m (k + 1) (by omega) (by omega)
      exact ⟨by omega, h4, h5⟩
theorem zj_txt_inj : ∀ i, i < 27 → ∀ j, j < 30 → zx_txt.getD i [] = zx_txt.getD j [] → i = j := by decide
theorem zj_like_two {g : Nat → Int} {q n : Nat} {l1 l2 : List Nat} (h1 : zj_like g q n l1 = true) (h2 : zj_like g q n l2 = true) : l1 = l2 := by
  obtain ⟨a1, a2⟩ := zj_like_i.mp h1
  obtain ⟨b1, b2⟩ := zj_like_i.mp h2
  apply List.ext_getElem (by omega)
  intro j h3 h4
  have h5 := a2 j (by omega)
  have h6 := b2 j (by omega)
  rw [h5] at h6
  have h7 : l1.getD j 0 = l2.getD j 0 := by omega
  rw [List.getD_eq_getElem?_getD, List.getD_eq_getElem?_getD, List.getElem?_eq_getElem h3, List.getElem?_eq_getElem h4] at h7
  exact h7
/-- which word it is -/
theorem zj_find_i {g : Nat → Int} {q n k : Nat} (hn : 0 < n) (hk : k < 27) : zj_find g q n = k ↔ zj_like g q n (zx_txt.getD k []) = true := by
  constructor
  · intro h
    rcases zj_fd_some 30 0 k h with h1 | ⟨-, -, -, h1⟩
    · omega
    · exact h1
  · intro h
    obtain ⟨-, h2, h3⟩ := zj_fd_hit hn h 30 0 (Nat.zero_le _) (by omega)
    exact (zj_txt_inj k hk _ (by omega) (zj_like_two h h3)).symm
theorem zj_find_29 {g : Nat → Int} {q n : Nat} (h : ∀ k, k < 27 → ¬ zj_like g q n (zx_txt.getD k []) = true) : zj_find g q n = 29 := by
  rcases zj_fd_some 30 0 (zj_find g q n) rfl with h1 | ⟨-, h2, h3, h4⟩
  · exact h1
  · have h5 := zj_fd_27 (g := g) (q := q) (n := n) 30 0 (Nat.le_refl _)
    have h6 : zj_find g q n < 30 := h2
    rcases Nat.lt_or_ge (zj_find g q n) 27 with h7 | h7
    · exact absurd h4 (h _ h7)
    · have h8 : zj_find g q n ≠ 27 ∧ zj_find g q n ≠ 28 := h5
      omega
theorem zj_txt_sm : ∀ k, k < 21 → 0 < zj_ln k ∧ zj_ln k ≤ 8 ∧ ∀ j, j < zj_ln k → 97 ≤ zj_ch k j ∧ zj_ch k j ≤ 122 := by decide
theorem zj_txt_sg : ∀ k, k < 27 → 21 ≤ k → zj_ln k = 1 ∧ (zj_ch k 0 < 48 ∨ (57 < zj_ch k 0 ∧ zj_ch k 0 < 97)) := by decide
theorem zj_txt_sg2 : ∀ k, k < 27 → 21 ≤ k → (zj_ch k 0 = 59 ∨ zj_ch k 0 = 40 ∨ zj_ch k 0 = 41 ∨ (60 ≤ zj_ch k 0 ∧ zj_ch k 0 ≤ 62)) := by decide
theorem zj_txt_sg3 : ∀ c, (c = 59 ∨ c = 40 ∨ c = 41 ∨ c = 60 ∨ c = 61 ∨ c = 62) → ∃ k, 21 ≤ k ∧ k < 27 ∧ zj_ch k 0 = c := by
  rintro c (rfl | rfl | rfl | rfl | rfl | rfl)
  · exact ⟨24, by decide, by decide, by decide⟩
  · exact ⟨25, by decide, by decide, by decide⟩
  · exact ⟨26, by decide, by decide, by decide⟩
  · exact ⟨21, by decide, by decide, by decide⟩
  · exact ⟨22, by decide, by decide, by decide⟩
  · exact ⟨23, by decide, by decide, by decide⟩
theorem zj_txt_sg4 : ∀ i, i < 27 → 21 ≤ i → ∀ j, j < 27 → 21 ≤ j → zj_ch i 0 = zj_ch j 0 → i = j := by decide
/-- none -/
theorem zj_tok_bad {tk : zj_T} {nu : Int32} {wd : Int64} (h : tk.1 = 29) : zj_tok tk 4 nu wd :=
  ⟨fun k hk => ⟨fun h1 => absurd h1.1 (by decide), fun h1 => by omega⟩, fun k hk hk2 => ⟨fun h1 => absurd h1.1 (by decide), fun h1 => by omega⟩, ⟨fun h1 => absurd h1 (by decide), fun h1 => by omega⟩, ⟨fun h1 => absurd h1 (by decide), fun h1 => by omega⟩, fun h1 => by omega⟩
theorem zj_tok_end {tk : zj_T} {nu : Int32} {wd : Int64} (h : tk.1 = 28) : zj_tok tk 0 nu wd :=
  ⟨fun k hk => ⟨fun h1 => absurd h1.1 (by decide), fun h1 => by omega⟩, fun k hk hk2 => ⟨fun h1 => absurd h1.1 (by decide), fun h1 => by omega⟩, ⟨fun h1 => absurd h1 (by decide), fun h1 => by omega⟩, ⟨fun _ => h, fun _ => rfl⟩, fun h1 => by omega⟩
theorem zj_tok_num {tk : zj_T} {nu : Int32} {wd : Int64} (h : tk.1 = 27) (hn : nu.toInt = tk.2.1) : zj_tok tk 2 nu wd :=
  ⟨fun k hk => ⟨fun h1 => absurd h1.1 (by decide), fun h1 => by omega⟩, fun k hk hk2 => ⟨fun h1 => absurd h1.1 (by decide), fun h1 => by omega⟩, ⟨fun _ => h, fun _ => rfl⟩, ⟨fun h1 => absurd h1 (by decide), fun h1 => by omega⟩, fun _ => hn⟩
theorem zj_wd_pos {g : Nat → Int} {q : Nat} : ∀ (n : Nat), (∀ j, j < n → 1 ≤ g (q + j) ∧ g (q + j) ≤ 255) → 0 ≤ zj_wd g q n
  | 0, _ => Int.le_refl _
  | n + 1, h => by
    have h1 := zj_wd_pos n (fun j hj => h j (by omega))
    have h2 := h n (by omega)
    rw [zj_wd]
    omega
theorem zj_wd_cg {g h : Nat → Int} {q r : Nat} : ∀ (n : Nat), (∀ j, j < n → g (q + j) = h (r + j)) → zj_wd g q n = zj_wd h r n
  | 0, _ => rfl
  | n + 1, hh => by
    rw [zj_wd, zj_wd, zj_wd_cg n (fun j hj => hh j (by omega)), hh n (by omega)]
/-- bytes packed: which they are -/
theorem zj_wd_inj {g h : Nat → Int} {q r : Nat} : ∀ (n m : Nat), (∀ j, j < n → 1 ≤ g (q + j) ∧ g (q + j) ≤ 255) → (∀ j, j < m → 1 ≤ h (r + j) ∧ h (r + j) ≤ 255) → zj_wd g q n = zj_wd h r m → n = m ∧ ∀ j, j < n → g (q + j) = h (r + j)
  | 0, 0, _, _, _ => ⟨rfl, fun j hj => absurd hj (Nat.not_lt_zero _)⟩
  | 0, m + 1, _, h2, h3 => by
    rw [zj_wd, zj_wd] at h3
    have h4 := h2 m (by omega)
    have h5 := zj_wd_pos (g := h) (q := r) m (fun j hj => h2 j (by omega))
    omega
  | n + 1, 0, h1, _, h3 => by
    rw [zj_wd, zj_wd] at h3
    have h4 := h1 n (by omega)
    have h5 := zj_wd_pos (g := g) (q := q) n (fun j hj => h1 j (by omega))
    omega
  | n + 1, m + 1, h1, h2, h3 => by
    rw [zj_wd, zj_wd] at h3
    have h4 := h1 n (by omega)
    have h5 := h2 m (by omega)
    obtain ⟨h6, h7⟩ := zj_wd_inj (g := g) (h := h) (q := q) (r := r) n m (fun j hj => h1 j (by omega)) (fun j hj => h2 j (by omega)) (by omega)
    subst h6
    refine ⟨rfl, fun j hj => ?_⟩
    by_cases hjn : j = n
    · subst hjn; omega
    · exact h7 j (by omega)
theorem zj_wd_lt {g : Nat → Int} {q : Nat} : ∀ (n : Nat), (∀ j, j < n → 0 ≤ g (q + j) ∧ g (q + j) ≤ 127) → 0 ≤ zj_wd g q n ∧ 2 * zj_wd g q n < (256 : Int) ^ n
  | 0, _ => ⟨Int.le_refl _, (by decide : (2 : Int) * 0 < 1)⟩
  | n + 1, h => by
    obtain ⟨h1, h2⟩ := zj_wd_lt n (fun j hj => h j (by omega))
    have h3 := h n (by omega)
    rw [zj_wd, Int.pow_succ]
    omega
theorem zj_wd_63 {g : Nat → Int} {q n : Nat} (hn : n ≤ 8) (h : ∀ j, j < n → 0 ≤ g (q + j) ∧ g (q + j) ≤ 127) : 0 ≤ zj_wd g q n ∧ zj_wd g q n < 9223372036854775808 := by
  obtain ⟨h1, h2⟩ := zj_wd_lt n h
  have h3 : (256 : Int) ^ n ≤ 18446744073709551616 := by
    have h4 : n = 0 ∨ n = 1 ∨ n = 2 ∨ n = 3 ∨ n = 4 ∨ n = 5 ∨ n = 6 ∨ n = 7 ∨ n = 8 := by omega
    rcases h4 with h4 | h4 | h4 | h4 | h4 | h4 | h4 | h4 | h4 <;> rw [h4] <;> decide
  omega
theorem zj_wc_i {k : Nat} (hk : k < 21) : (zj_wc k).toInt = zj_wd (fun j => (zj_ch k j : Int)) 0 (zj_ln k) := by
  obtain ⟨h1, h2, h3⟩ := zj_txt_sm k hk
  obtain ⟨h4, h5⟩ := zj_wd_63 (g := fun j => (zj_ch k j : Int)) (q := 0) h2 (fun j hj => by
    have h6 := h3 j hj
    rw [Nat.zero_add]
    omega)
  unfold zj_wc
  exact Int64.toInt_ofInt_of_le (by omega) (by omega)
theorem zj_sm_i {c : Int} : zj_sm c = true ↔ 97 ≤ c ∧ c ≤ 122 := by
  unfold zj_sm
  rw [Bool.and_eq_true, decide_eq_true_iff, decide_eq_true_iff]
theorem zj_dg_i {c : Int} : zj_dg c = true ↔ 48 ≤ c ∧ c ≤ 57 := by
  unfold zj_dg
  rw [Bool.and_eq_true, decide_eq_true_iff, decide_eq_true_iff]
/-- a word of small letters -/
theorem zj_tok_word {g : Nat → Int} {q n e : Nat} {nu : Int32} {wd : Int64} (hn : 0 < n) (hn8 : n ≤ 8) (hs : ∀ j, j < n → zj_sm (g (q + j)) = true) (hw : wd.toInt = zj_wd g q n) : zj_tok (zj_find g q n, 0, q, e) 1 nu wd := by
  have h27 := zj_fd_27 (g := g) (q := q) (n := n) 30 0 (Nat.le_refl _)
  have h28 : zj_find g q n ≠ 27 ∧ zj_find g q n ≠ 28 := h27
  refine ⟨fun k hk => ?_, fun k hk hk2 => ⟨fun h1 => absurd h1.1 (by decide), fun h1 => ?_⟩, ⟨fun h1 => absurd h1 (by decide), fun h1 => absurd h1 h28.1⟩, ⟨fun h1 => absurd h1 (by decide), fun h1 => absurd h1 h28.2⟩, fun h1 => absurd h1 h28.1⟩
  · show _ ↔ zj_find g q n = k
    rw [zj_find_i hn (by omega), zj_like_i]
    obtain ⟨t1, t2, t3⟩ := zj_txt_sm k hk
    constructor
    · rintro ⟨-, h1⟩
      have h2 : zj_wd g q n = zj_wd (fun j => (zj_ch k j : Int)) 0 (zj_ln k) := by rw [← hw, h1, zj_wc_i hk]
      obtain ⟨h3, h4⟩ := zj_wd_inj n (zj_ln k) (fun j hj => by have := zj_sm_i.mp (hs j hj); omega) (fun j hj => by
        have := t3 j hj
        rw [Nat.zero_add]
        omega) h2
      refine ⟨h3, fun j hj => ?_⟩
      rw [h4 j hj, Nat.zero_add]
      rfl
    · rintro ⟨h1, h2⟩
      refine ⟨rfl, Int64.toInt_inj.mp ?_⟩
      have h3 : n = zj_ln k := h1
      rw [zj_wc_i hk, hw, ← h3]
      exact zj_wd_cg n (fun j hj => by rw [Nat.zero_add]; exact h2 j hj)
  · have h2 : zj_find g q n = k := h1
    rw [zj_find_i hn (by omega), zj_like_i] at h2
    have h3 := zj_txt_sg k hk2 hk
    have h4 := h2.2 0 hn
    have h5 := zj_sm_i.mp (hs 0 hn)
    have h6 : g (q + 0) = (zj_ch k 0 : Int) := h4
    omega
/-- no word -/
theorem zj_find_no {g : Nat → Int} {q n : Nat} (hn : 0 < n) (h : 8 < n ∨ ∃ j, j < n ∧ zj_dg (g (q + j)) = true) : zj_find g q n = 29 := by
  refine zj_find_29 (fun k hk hl => ?_)
  obtain ⟨h1, h2⟩ := zj_like_i.mp hl
  have h1 : n = zj_ln k := h1
  rcases Nat.lt_or_ge k 21 with h3 | h3
  · obtain ⟨t1, t2, t3⟩ := zj_txt_sm k h3
    rcases h with h | ⟨j, hj, h⟩
    · omega
    · have h4 : g (q + j) = (zj_ch k j : Int) := h2 j hj
      have h5 := t3 j (by omega)
      have h6 := zj_dg_i.mp h
      omega
  · obtain ⟨t1, t2⟩ := zj_txt_sg k hk h3
    rcases h with h | ⟨j, hj, h⟩
    · omega
    · have hj0 : j = 0 := by omega
      subst hj0
      have h4 : g (q + 0) = (zj_ch k 0 : Int) := h2 0 hj
      have h6 := zj_dg_i.mp h
      omega
/-- a sign, or none -/
theorem zj_tok_sign {g : Nat → Int} {q e : Nat} {tok nu : Int32} {wd : Int64} (ha : ¬ zj_an (g q) = true) (hnu : nu.toInt = g q) (ht : (tok = 3 ∧ (g q = 59 ∨ g q = 40 ∨ g q = 41 ∨ g q = 60 ∨ g q = 61 ∨ g q = 62)) ∨ (tok = 4 ∧ ¬ (g q = 59 ∨ g q = 40 ∨ g q = 41 ∨ g q = 60 ∨ g q = 61 ∨ g q = 62))) : zj_tok (zj_find g q 1, 0, q, e) tok nu wd := by
  have h27 := zj_fd_27 (g := g) (q := q) (n := 1) 30 0 (Nat.le_refl _)
  have h28 : zj_find g q 1 ≠ 27 ∧ zj_find g q 1 ≠ 28 := h27
  have hno : ∀ k, k < 21 → zj_find g q 1 ≠ k := by
    intro k hk h1
    rw [zj_find_i (by decide) (by omega), zj_like_i] at h1
    obtain ⟨t1, t2, t3⟩ := zj_txt_sm k hk
    have h2 : g (q + 0) = (zj_ch k 0 : Int) := h1.2 0 (by decide)
    have h3 := t3 0 t1
    refine ha ?_
    unfold zj_an
    rw [Bool.or_eq_true]
    refine Or.inr (zj_sm_i.mpr ?_)
    rw [Nat.add_zero] at h2
    omega
  have hsg : ∀ k, 21 ≤ k → k < 27 → (zj_find g q 1 = k ↔ g q = (zj_ch k 0 : Int)) := by
    intro k hk hk2
    rw [zj_find_i (by decide) hk2, zj_like_i]
    obtain ⟨t1, t2⟩ := zj_txt_sg k hk2 hk
    constructor
    · rintro ⟨-, h1⟩
      exact h1 0 (by decide)
    · intro h1
      refine ⟨t1.symm, fun j hj => ?_⟩
      have hj0 : j = 0 := by omega
      subst hj0
      exact h1
  have hsc : ∀ k, 21 ≤ k → k < 27 → (nu = zj_sc k ↔ g q = (zj_ch k 0 : Int)) := by
    intro k hk hk2
    have hc : (zj_sc k).toInt = (zj_ch k 0 : Int) := by
      have h1 : ∀ k, k < 27 → 21 ≤ k → (zj_sc k).toInt = (zj_ch k 0 : Int) := by decide
      exact h1 k hk2 hk
    rw [← Int32.toInt_inj, hnu, hc]
  rcases ht with ⟨rfl, ht⟩ | ⟨rfl, ht⟩
  · refine ⟨fun k hk => ⟨fun h1 => absurd h1.1 (by decide), fun h1 => absurd h1 (hno k hk)⟩, fun k hk hk2 => ?_, ⟨fun h1 => absurd h1 (by decide), fun h1 => absurd h1 h28.1⟩, ⟨fun h1 => absurd h1 (by decide), fun h1 => absurd h1 h28.2⟩, fun h1 => absurd h1 h28.1⟩
    show _ ↔ zj_find g q 1 = k
    rw [hsg k hk hk2, hsc k hk hk2]
    exact ⟨fun h1 => h1.2, fun h1 => ⟨rfl, h1⟩⟩
  · refine ⟨fun k hk => ⟨fun h1 => absurd h1.1 (by decide), fun h1 => absurd h1 (hno k hk)⟩, fun k hk hk2 => ⟨fun h1 => absurd h1.1 (by decide), fun h1 => ?_⟩, ⟨fun h1 => absurd h1 (by decide), fun h1 => absurd h1 h28.1⟩, ⟨fun h1 => absurd h1 (by decide), fun h1 => absurd h1 h28.2⟩, fun h1 => absurd h1 h28.1⟩
    have h2 := (hsg k hk hk2).mp h1
    have h3 := zj_txt_sg2 k hk2 hk
    exact absurd (by omega) ht
end
