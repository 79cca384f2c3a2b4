noncomputable section
/-! zr: the law's invariant, with how many roles each opera has -/
theorem zr_memL : ∀ k : Nat, k < 9 → 16 + 6 * k ∈ vLK := by decide
theorem zr_memM : ∀ k : Nat, k < 9 → 16 + 6 * k ∈ [1, 219, 9, 16, 22, 28, 34, 40, 46, 52, 58, 64, 238, 240, 241, 242, 286] := by decide
def zgL_Inv11 (ws : va_W) : Prop := zgL_Inv5 ws ∧ zr_J ws
theorem zgL_Inv11_kp {ws ws' : va_W} {l : List (Nat × (Int × Int))} {d : Int} (h : zgL_Inv11 ws) (kp : zx_KP (ws, vLK) ws') (hf : zg_fs (ws.drop 218) (ws'.drop 218) l) (m1 : (98, ((0 : Int), (0 : Int))) ∈ l) (m2 : (99, ((0 : Int), (0 : Int))) ∈ l) (m3 : (100, ((0 : Int), (0 : Int))) ∈ l) (m4 : (6, ((0 : Int), d)) ∈ l) (m5 : (21, ((0 : Int), (0 : Int))) ∈ l) : zgL_Inv11 ws' :=
  ⟨zgL_Inv5_kp h.1 kp hf m1 m2 m3 m4, zr_J_kp h.2 kp (by decide) hf m5⟩
end
