/-! winters, and the queries that only read a text -/
def dr1 (s : Int32) : Int32 := (1103515245) * s + 12345
def dr (s : Int32) : Nat → Int32
  | 0 => s
  | n + 1 => dr1 (dr s n)
def lot (x : Int32) : Int32 := (ushr32 x 16) - (ushr32 x 16) / 5 * 5
theorem lot_le (x : Int32) : ∃ m, m ≤ 4 ∧ lot x = nI m := by
  have hx : ∃ a : Nat, a < 2 ^ 31 ∧ ushr32 x 16 = nI a := by
    refine ⟨(ushr32 x 16).toInt.toNat, ?_, ?_⟩
    · have := Int32.toInt_lt (ushr32 x 16); omega
    · apply Int32.toInt_inj.mp
      have h0 : 0 ≤ (ushr32 x 16).toInt := by
        unfold ushr32
        sorry
      rw [nI_toInt (by have := Int32.toInt_lt (ushr32 x 16); omega)]
      omega
  obtain ⟨a, ha, e⟩ := hx
  unfold lot
  sorry
