noncomputable section
/-! zj: texts that agree as far as they go are read alike -/
section ZKT
variable {g g' : Nat → Int} {t : Nat}
theorem zj_sk_cg (P : Int → Bool) (h : ∀ i, i < t → g i = g' i) : ∀ n p : Nat, zj_sk P g t n p = zj_sk P g' t n p
  | 0, p => rfl
  | n + 1, p => by
    rw [zj_sk, zj_sk]
    by_cases hp : p < t
    · rw [h p hp, zj_sk_cg P h n (p + 1)]
    · rw [if_neg (fun q => hp q.1), if_neg (fun q => hp q.1)]
theorem zj_run_cg (P : Int → Bool) (h : ∀ i, i < t → g i = g' i) (p : Nat) : zj_run P g t p = zj_run P g' t p := zj_sk_cg P h _ _
theorem zj_val_cg {q : Nat} : ∀ n : Nat, (∀ j, j < n → g (q + j) = g' (q + j)) → zj_val g q n = zj_val g' q n
  | 0, _ => rfl
  | n + 1, h => by rw [zj_val, zj_val, zj_val_cg n (fun j hj => h j (by omega)), h n (by omega)]
theorem zj_all_cg (P : Int → Bool) {q : Nat} : ∀ n : Nat, (∀ j, j < n → g (q + j) = g' (q + j)) → zj_all P g q n = zj_all P g' q n
  | 0, _ => rfl
  | n + 1, h => by rw [zj_all, zj_all, zj_all_cg P n (fun j hj => h j (by omega)), h n (by omega)]
theorem zj_like_cg {q n : Nat} {l : List Nat} (h : ∀ j, j < n → g (q + j) = g' (q + j)) : zj_like g q n l = zj_like g' q n l := by
  have h1 : ∀ b : Bool, (zj_like g q n l = b) ↔ (zj_like g' q n l = b) := by
    have h2 : zj_like g q n l = true ↔ zj_like g' q n l = true := by
      rw [zj_like_i, zj_like_i]
      exact ⟨fun k => ⟨k.1, fun j hj => (h j hj).symm.trans (k.2 j hj)⟩, fun k => ⟨k.1, fun j hj => (h j hj).trans (k.2 j hj)⟩⟩
    intro b
    cases b
    · rw [Bool.eq_false_iff, Bool.eq_false_iff]
      exact not_congr h2
    · exact h2
  exact (h1 _).mpr rfl
theorem zj_fd_cg {q n : Nat} (h : ∀ j, j < n → g (q + j) = g' (q + j)) : ∀ m k : Nat, zj_fd g q n m k = zj_fd g' q n m k
  | 0, _ => rfl
  | m + 1, k => by rw [zj_fd, zj_fd, zj_like_cg h, zj_fd_cg h m (k + 1)]
theorem zj_find_cg {q n : Nat} (h : ∀ j, j < n → g (q + j) = g' (q + j)) : zj_find g q n = zj_find g' q n := zj_fd_cg h _ _
theorem zj_tk_cg (h : ∀ i, i < t → g i = g' i) : zj_tk g t = zj_tk g' t := by
  funext p
  unfold zj_tk
  rw [zj_run_cg zj_bl h]
  generalize zj_run zj_bl g' t p = q
  unfold zj_t2
  by_cases h1 : 300 ≤ q ∧ 300 < t
  · rw [if_pos h1, if_pos h1]
  rw [if_neg h1, if_neg h1]
  by_cases h2 : t ≤ q
  · rw [if_pos h2, if_pos h2]
  rw [if_neg h2, if_neg h2, h q (by omega), zj_run_cg zj_an h]
  have h4 : zj_run zj_an g' t (q + 1) ≤ t := zj_sk_le _ _ (by omega)
  have h5 : zj_find g q 1 = zj_find g' q 1 := zj_find_cg (fun j hj => h _ (by omega))
  rw [h5]
  generalize zj_run zj_an g' t (q + 1) = e at h4
  have h3 : zj_t3 g q e = zj_t3 g' q e := by
    unfold zj_t3
    have h6 : ∀ j, j < e - q → g (q + j) = g' (q + j) := fun j hj => h _ (by omega)
    rw [h q (by omega), zj_all_cg zj_dg _ h6, zj_val_cg _ h6, zj_find_cg h6]
  rw [h3]
theorem zj_st_cg (h : ∀ i, i < t → g i = g' i) (c : zj_C) : zj_st g t c = zj_st g' t c := by
  unfold zj_st
  rw [zj_tk_cg h]
theorem zj_it_cg (h : ∀ i, i < t → g i = g' i) : ∀ (n : Nat) (c : zj_C), zj_it g t n c = zj_it g' t n c
  | 0, _ => rfl
  | n + 1, c => by rw [zj_it, zj_it, zj_st_cg h, zj_it_cg h n]
theorem zj_R_cg (h : ∀ i, i < t → g i = g' i) {c c' : zj_C} (k : zj_R g t c c') : zj_R g' t c c' := by
  obtain ⟨n, hn⟩ := k
  exact ⟨n, by rw [← zj_it_cg h]; exact hn⟩
end ZKT
/-- two texts that agree: one answer, one fault -/
theorem zj_both {g g' : Nat → Int} {t : Nat} (h : ∀ i, i < t → g i = g' i) {a a' : Int} {k k' : Nat} (h1 : zj_R g t (0, zj_tk g t 0, 0, 0, 0, 0, 0, [], 0, 0) (zj_f a k)) (h2 : zj_R g' t (0, zj_tk g' t 0, 0, 0, 0, 0, 0, [], 0, 0) (zj_f a' k')) : a = a' ∧ k = k' := by
  have h3 := zj_R_cg h h1
  rw [zj_tk_cg h] at h3
  exact zj_R_det h3 h2
end
