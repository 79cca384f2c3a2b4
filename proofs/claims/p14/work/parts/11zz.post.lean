noncomputable section
/-! zv: what is done behind an instruction -/
def zv_pv (i : Instr) (sk : List zx_V) : Option Nat := match i with
  | .ifCond _ _ => (match sk with
    | .inl x :: _ => zv_pv1 x
    | _ => none)
  | .if_icmp _ _ => (match sk with
    | .inl y :: .inl x :: _ => zv_pv1 (zx_sub x y)
    | _ => none)
  | _ => none
where zv_pv1 (d : zx_L) : Option Nat := match d.1 with
  | [q] => some q.1
  | _ => none
def zv_po1 (v : Nat) : List (Nat × zx_T) → List (Nat × zx_T)
  | [] => []
  | q :: r => if zv_any q.2.1 = true then (fun (G1 : zx_G) => if zv_fe G1 = true then (q.1, G1, q.2.2) :: zv_po1 v r else zv_po1 v r) (zv_prop q.2.1 v) else q :: zv_po1 v r
def zv_post (i : Instr) (sk : List zx_V) (z : List (Nat × zx_T)) : List (Nat × zx_T) := match zv_pv i sk with
  | some v => zv_po1 v z
  | none => z
theorem zv_po1_mem {ρ : List Int} {v : Nat} {q : Nat × zx_T} (hG : zx_ok ρ q.2.1) : ∀ {z : List (Nat × zx_T)}, q ∈ z → ∃ G', (q.1, G', q.2.2) ∈ zv_po1 v z ∧ zx_ok ρ G'
  | [], h => nomatch h
  | a :: r, h => by
    rw [zv_po1]
    rcases List.mem_cons.mp h with e | e
    · subst e
      split
      · refine ⟨zv_prop q.2.1 v, ?_, zv_prop_ok hG⟩
        show _ ∈ (if zv_fe (zv_prop q.2.1 v) = true then (q.1, zv_prop q.2.1 v, q.2.2) :: zv_po1 v r else zv_po1 v r)
        rw [if_pos (zv_fe_ok (zv_prop_ok hG))]
        exact List.mem_cons_self
      · exact ⟨q.2.1, List.mem_cons_self, hG⟩
    · obtain ⟨G', h1, h2⟩ := zv_po1_mem hG e
      refine ⟨G', ?_, h2⟩
      split
      · show _ ∈ (if zv_fe (zv_prop a.2.1 v) = true then (a.1, zv_prop a.2.1 v, a.2.2) :: zv_po1 v r else zv_po1 v r)
        split
        · exact List.mem_cons_of_mem _ h1
        · exact h1
      · exact List.mem_cons_of_mem _ h1
theorem zv_post_mem {ρ : List Int} {i : Instr} {sk : List zx_V} {q : Nat × zx_T} (hG : zx_ok ρ q.2.1) {z : List (Nat × zx_T)} (h : q ∈ z) : ∃ G', (q.1, G', q.2.2) ∈ zv_post i sk z ∧ zx_ok ρ G' := by
  unfold zv_post
  split
  · exact zv_po1_mem hG h
  · exact ⟨q.2.1, h, hG⟩
/-! behind a call -/
def zv_seq (G : zx_G) (i : Nat) (e : zx_L) : zx_G := match zy_get G i with
  | some b => zy_set G i (b.1, some e)
  | none => G
theorem zv_seq_ok {ρ : List Int} {G : zx_G} (hG : zx_ok ρ G) {i : Nat} {e : zx_L} (hq : zv_Q ρ (i, e)) : zx_ok ρ (zv_seq G i e) := by
  rw [zv_seq]
  split
  · rename_i b hb
    rw [zy_get_eq] at hb
    rw [zy_set_eq]
    refine ⟨by rw [List.length_set]; exact hG.1, fun j v c hv hc => ?_⟩
    by_cases hi : i = j
    · subst hi
      rw [List.getElem?_set] at hc
      simp only [if_true] at hc
      split at hc
      · cases hc
        obtain ⟨k1, k2, -⟩ := hG.2 i v b hv hb
        obtain ⟨u, q1, q2⟩ := hq
        have q1 : ρ[i]? = some u := q1
        rw [hv] at q1
        cases q1
        exact ⟨k1, k2, fun e' he' => by cases he'; exact q2⟩
      · cases hc
    · rw [List.getElem?_set, if_neg hi] at hc
      exact hG.2 j v c hv hc
  · exact hG
def zv_ne (n0 : Nat) : List (Nat × zx_L) → List (Nat × zx_L) → zx_G → zx_G
  | _, [], G => G
  | dn, q :: r, G => if Nat.blt q.1 n0 = true then zv_ne n0 (dn ++ [q]) r G else (fun (e : zx_L) => zv_ne n0 (dn ++ [(q.1, e)]) r (zv_seq G q.1 e)) (zv_nrmE dn q.2)
theorem zv_ne_ok {ρ : List Int} {n0 : Nat} : ∀ {l dn : List (Nat × zx_L)} {G : zx_G}, (∀ q ∈ dn, zv_Q ρ q) → (∀ q ∈ l, zv_Q ρ q) → zx_ok ρ G → zx_ok ρ (zv_ne n0 dn l G)
  | [], _, _, _, _, hG => hG
  | q :: r, dn, G, hd, hl, hG => by
    have hr : ∀ q ∈ r, zv_Q ρ q := fun x hx => hl x (List.mem_cons_of_mem _ hx)
    have hq := hl q List.mem_cons_self
    have hap : ∀ e, zv_Q ρ (q.1, e) → ∀ x ∈ dn ++ [(q.1, e)], zv_Q ρ x := fun e he x hx => by
      rcases List.mem_append.mp hx with h | h
      · exact hd x h
      · cases List.mem_singleton.mp h; exact he
    rw [zv_ne]
    split
    · exact zv_ne_ok (hap q.2 hq) hr hG
    · have he : zv_Q ρ (q.1, zv_nrmE dn q.2) := by
        obtain ⟨v, h1, h2⟩ := hq
        exact ⟨v, h1, zv_nrmE_ok hd h2⟩
      exact zv_ne_ok (hap _ he) hr (zv_seq_ok hG he)
def zv_pps : List Nat → zx_G → zx_G
  | [], G => G
  | x :: r, G => zv_pps r (zv_prop G x)
theorem zv_pps_ok {ρ : List Int} : ∀ {l : List Nat} {G : zx_G}, zx_ok ρ G → zx_ok ρ (zv_pps l G)
  | [], _, h => h
  | x :: r, _, h => by
    rw [zv_pps]
    exact zv_pps_ok (zv_prop_ok h)
def zv_nw (n0 : Nat) : List (Nat × zx_L) → List Nat
  | [] => []
  | q :: r => if Nat.blt q.1 n0 = true then zv_nw n0 r else q.1 :: zv_nw n0 r
def zv_pc2 (n0 : Nat) (G : zx_G) (Es : List (Nat × zx_L)) (ns : List Nat) : Option zx_G := match ns with
  | [] => some G
  | _ => (fun (G1 : zx_G) => if zv_fe G1 = true then some G1 else none) (zv_pps ns (zv_ne n0 [] Es G))
def zv_pc1 (n0 : Nat) (G : zx_G) (Es : List (Nat × zx_L)) : Option zx_G := zv_pc2 n0 G Es (zv_nw n0 Es)
def zv_pc (n0 : Nat) (G : zx_G) : Option zx_G := zv_pc1 n0 G (zv_eqs 0 G)
theorem zv_pc_ok {ρ : List Int} {n0 : Nat} {G : zx_G} (hG : zx_ok ρ G) : ∃ G', zv_pc n0 G = some G' ∧ zx_ok ρ G' := by
  unfold zv_pc zv_pc1 zv_pc2
  split
  · exact ⟨G, rfl, hG⟩
  · have h := zv_pps_ok (l := zv_nw n0 (zv_eqs 0 G)) (zv_ne_ok (n0 := n0) (dn := []) (fun q hq => nomatch hq) (zv_eqs0 hG) hG)
    exact ⟨_, if_pos (zv_fe_ok h), h⟩
def zv_pcl {α : Type} (n0 : Nat) : List (zx_G × α) → List (zx_G × α)
  | [] => []
  | q :: r => match zv_pc n0 q.1 with
    | some G1 => (G1, q.2) :: zv_pcl n0 r
    | none => zv_pcl n0 r
theorem zv_pcl_mem {α : Type} {n0 : Nat} {q : zx_G × α} {G1 : zx_G} (h : zv_pc n0 q.1 = some G1) : ∀ {l : List (zx_G × α)}, q ∈ l → (G1, q.2) ∈ zv_pcl n0 l
  | [], hq => nomatch hq
  | a :: r, hq => by
    rw [zv_pcl]
    rcases List.mem_cons.mp hq with e | e
    · subst e
      rw [h]
      exact List.mem_cons_self
    · have ih := zv_pcl_mem h e
      split
      · exact List.mem_cons_of_mem _ ih
      · exact ih
end
