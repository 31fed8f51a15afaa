section PB12a
set_option maxHeartbeats 4000000 in
theorem pb_nz_iff {x mz : Nat} (hx : x < 2 ^ 32) (hm : mz ≤ 32) : mz ≤ pb_nz x ↔ x < 2 ^ (32 - mz) := by
  have hc : mz = 0 ∨ mz = 1 ∨ mz = 2 ∨ mz = 3 ∨ mz = 4 ∨ mz = 5 ∨ mz = 6 ∨ mz = 7 ∨ mz = 8 ∨ mz = 9 ∨ mz = 10 ∨ mz = 11 ∨ mz = 12 ∨ mz = 13 ∨ mz = 14 ∨ mz = 15 ∨ mz = 16 ∨ mz = 17 ∨ mz = 18 ∨ mz = 19 ∨ mz = 20 ∨ mz = 21 ∨ mz = 22 ∨ mz = 23 ∨ mz = 24 ∨ mz = 25 ∨ mz = 26 ∨ mz = 27 ∨ mz = 28 ∨ mz = 29 ∨ mz = 30 ∨ mz = 31 ∨ mz = 32 := by omega
  unfold pb_nz
  by_cases h0 : x = 0
  · rw [if_pos h0]
    subst h0
    exact ⟨fun _ => Nat.pow_pos (by decide), fun _ => hm⟩
  · rw [if_neg h0]
    by_cases h1 : 2 ^ 31 ≤ x
    · rw [if_pos h1]
      rcases hc with rfl | hc
      · exact ⟨fun _ => hx, fun _ => Nat.le_refl _⟩
      · have : 2 ^ (32 - mz) ≤ 2 ^ 31 := Nat.pow_le_pow_right (by decide) (by omega)
        constructor <;> intro h <;> omega
    · rw [if_neg h1]
      dsimp only
      by_cases a1 : x < 65536 <;> simp only [a1, if_true, if_false]
      · by_cases a2 : x < 256 <;> simp only [a2, if_true, if_false]
        · by_cases a3 : x < 16 <;> simp only [a3, if_true, if_false]
          · by_cases a4 : x < 4 <;> simp only [a4, if_true, if_false] <;> (rcases hc with rfl | rfl | rfl | rfl | rfl | rfl | rfl | rfl | rfl | rfl | rfl | rfl | rfl | rfl | rfl | rfl | rfl | rfl | rfl | rfl | rfl | rfl | rfl | rfl | rfl | rfl | rfl | rfl | rfl | rfl | rfl | rfl | rfl <;> omega)
          · by_cases a4 : x / 16 < 4 <;> simp only [a4, if_true, if_false] <;> (rcases hc with rfl | rfl | rfl | rfl | rfl | rfl | rfl | rfl | rfl | rfl | rfl | rfl | rfl | rfl | rfl | rfl | rfl | rfl | rfl | rfl | rfl | rfl | rfl | rfl | rfl | rfl | rfl | rfl | rfl | rfl | rfl | rfl | rfl <;> omega)
        · by_cases a3 : x / 256 < 16 <;> simp only [a3, if_true, if_false]
          · by_cases a4 : x / 256 < 4 <;> simp only [a4, if_true, if_false] <;> (rcases hc with rfl | rfl | rfl | rfl | rfl | rfl | rfl | rfl | rfl | rfl | rfl | rfl | rfl | rfl | rfl | rfl | rfl | rfl | rfl | rfl | rfl | rfl | rfl | rfl | rfl | rfl | rfl | rfl | rfl | rfl | rfl | rfl | rfl <;> omega)
          · by_cases a4 : x / 256 / 16 < 4 <;> simp only [a4, if_true, if_false] <;> (rcases hc with rfl | rfl | rfl | rfl | rfl | rfl | rfl | rfl | rfl | rfl | rfl | rfl | rfl | rfl | rfl | rfl | rfl | rfl | rfl | rfl | rfl | rfl | rfl | rfl | rfl | rfl | rfl | rfl | rfl | rfl | rfl | rfl | rfl <;> omega)
      · by_cases a2 : x / 65536 < 256 <;> simp only [a2, if_true, if_false]
        · by_cases a3 : x / 65536 < 16 <;> simp only [a3, if_true, if_false]
          · by_cases a4 : x / 65536 < 4 <;> simp only [a4, if_true, if_false] <;> (rcases hc with rfl | rfl | rfl | rfl | rfl | rfl | rfl | rfl | rfl | rfl | rfl | rfl | rfl | rfl | rfl | rfl | rfl | rfl | rfl | rfl | rfl | rfl | rfl | rfl | rfl | rfl | rfl | rfl | rfl | rfl | rfl | rfl | rfl <;> omega)
          · by_cases a4 : x / 65536 / 16 < 4 <;> simp only [a4, if_true, if_false] <;> (rcases hc with rfl | rfl | rfl | rfl | rfl | rfl | rfl | rfl | rfl | rfl | rfl | rfl | rfl | rfl | rfl | rfl | rfl | rfl | rfl | rfl | rfl | rfl | rfl | rfl | rfl | rfl | rfl | rfl | rfl | rfl | rfl | rfl | rfl <;> omega)
        · by_cases a3 : x / 65536 / 256 < 16 <;> simp only [a3, if_true, if_false]
          · by_cases a4 : x / 65536 / 256 < 4 <;> simp only [a4, if_true, if_false] <;> (rcases hc with rfl | rfl | rfl | rfl | rfl | rfl | rfl | rfl | rfl | rfl | rfl | rfl | rfl | rfl | rfl | rfl | rfl | rfl | rfl | rfl | rfl | rfl | rfl | rfl | rfl | rfl | rfl | rfl | rfl | rfl | rfl | rfl | rfl <;> omega)
          · by_cases a4 : x / 65536 / 256 / 16 < 4 <;> simp only [a4, if_true, if_false] <;> (rcases hc with rfl | rfl | rfl | rfl | rfl | rfl | rfl | rfl | rfl | rfl | rfl | rfl | rfl | rfl | rfl | rfl | rfl | rfl | rfl | rfl | rfl | rfl | rfl | rfl | rfl | rfl | rfl | rfl | rfl | rfl | rfl | rfl | rfl <;> omega)
end PB12a
