noncomputable section
/-! zq: the law's invariant, with both tapes -/
theorem zq_Inv_kp {ws ws' : va_W} {K : List Nat} {l : List (Nat × (Int × Int))} {d : Int} (h : zgL_Inv ws) (kp : zx_KP (ws, K) ws') (hK6 : ∀ i ∈ [2, 20, 22, 23, 24, 68], 218 + i ∈ K) (hf : zg_fs (ws.drop 218) (ws'.drop 218) l) (m1 : (98, ((0 : Int), (0 : Int))) ∈ l) (m2 : (99, ((0 : Int), (0 : Int))) ∈ l) (m3 : (100, ((0 : Int), (0 : Int))) ∈ l) (m4 : (6, ((0 : Int), d)) ∈ l) : zgL_Inv ws' := by
  refine ⟨zgL_PF_bk kp (fun i hi => hK6 i ?_) h.1, zgR1e_kp h.2 (fun i hi f hr => ?_) (zgL_fs_bk (by decide) hf) m1 m2 m3 m4⟩
  · simp only [List.mem_cons, List.not_mem_nil, or_false] at hi ⊢
    rcases hi with rfl | rfl | rfl | rfl <;> simp
  · simp only [List.mem_cons, List.not_mem_nil, or_false] at hi
    rcases hi with rfl | rfl
    · exact zgL_row_bk kp (by decide) (hK6 2 (by decide)) hr
    · exact zgL_row_bk kp (by decide) (hK6 68 (by decide)) hr
def zgL_Inv5 (ws : va_W) : Prop := zgL_Inv ws ∧ zq_Rel ws
theorem zgL_Inv5_kp {ws ws' : va_W} {l : List (Nat × (Int × Int))} {d : Int} (h : zgL_Inv5 ws) (kp : zx_KP (ws, vLK) ws') (hf : zg_fs (ws.drop 218) (ws'.drop 218) l) (m1 : (98, ((0 : Int), (0 : Int))) ∈ l) (m2 : (99, ((0 : Int), (0 : Int))) ∈ l) (m3 : (100, ((0 : Int), (0 : Int))) ∈ l) (m4 : (6, ((0 : Int), d)) ∈ l) : zgL_Inv5 ws' :=
  ⟨zgL_Inv_kp h.1 kp hf m1 m2 m3 m4, zq_Rel_kp h.2 kp (by decide) (by decide)⟩
theorem zq_ui {ρ : List Int} {G : zx_G} (hG : zx_ok ρ G) {i : Nat} {g : zx_b} (hg : G[i]? = some g) : ∃ w : Int, zx_ev ρ ([(i, 1)], 0) = some w ∧ g.1.1 ≤ w ∧ w ≤ g.1.2 := by
  have h1 : i < ρ.length := by rw [hG.1]; exact (List.getElem?_eq_some_iff.mp hg).1
  have h2 := hG.2 i ρ[i] g (List.getElem?_eq_getElem h1) hg
  refine ⟨ρ[i], ?_, h2.1, h2.2.1⟩
  refine zx_ev_iff.mpr ⟨1 * ρ[i] + 0, zx_evl_cons.mpr ⟨ρ[i], 0, List.getElem?_eq_getElem h1, rfl, rfl⟩, ?_⟩
  show ρ[i] = 1 * ρ[i] + 0 + 0
  omega
theorem zq_pr_len {T : zx_T} {i : Nat} {e : zx_L} {d : Nat} : (zq_pr T i e d).2.1.length = T.2.1.length := by
  unfold zq_pr
  split
  · show (List.set T.2.1 i _).length = T.2.1.length
    rw [List.length_set]
  · rfl
theorem zq_mem {pc : Nat} {l : List (Nat × Instr × Nat)} {x : Nat × Instr × Nat} (h : (zx_drop pc l).head? = some x) : x ∈ l := by
  obtain ⟨g1, -⟩ := zx_drop_ok (t := pc) (l := l)
  cases hd : zx_drop pc l with
  | nil => rw [hd] at h; cases h
  | cons a t =>
    rw [hd] at h
    cases h
    exact g1 _ (by rw [hd]; exact List.mem_cons_self)
theorem zq_as_ok {n : List Nat} {as : List zx_V} (h : zq_as n as = true) {i k : Nat} (hk : n[i]? = some k) : as[i + 1]? = some (.inl ([(k, 1)], 0)) := by
  have h1 := List.all_eq_true.mp h i (List.mem_range.mpr (List.getElem?_eq_some_iff.mp hk).1)
  have h1 := of_decide_eq_true h1
  rw [hk] at h1
  exact h1
end
