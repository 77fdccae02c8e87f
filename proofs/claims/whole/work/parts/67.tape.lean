/-! feed, trim -/
theorem shr_b (x : Int32) (k : Nat) (hk : k = 24 ∨ k = 16 ∨ k = 8 ∨ k = 0) : ∃ b : Nat, b < 256 ∧ ((x.toUInt32 >>> ((nI k).toUInt32 &&& Int32.toUInt32 31)).toInt32) &&& 255 = nI b ∧ (x >>> ((nI k) &&& 31)) &&& 255 = nI b := by
  sorry
theorem e_append_l {v : Int32} : ∀ (m n n' tl : Nat) (σ τ : Sta), m ≤ 4 → m < n → m < n' → tl + m ≤ 1500 → gI σ 1 = nI tl → gI τ 3 = nI tl →
    ∃ f f', f_X8_append_3 n v (if m = 0 then -8 else nI (8 * (m - 1))) σ = some ((), sI (sA σ 8 f) 1 (nI (tl + m))) ∧ f_X10_four_3 n' v (if m = 0 then -8 else nI (8 * (m - 1))) τ = some ((), sI (sA τ 2 f') 3 (nI (tl + m))) ∧
      (∀ j, j < tl → f j = gA σ 8 j ∧ f' j = gA τ 2 j) ∧ (∀ j, tl ≤ j → j < tl + m → f j = f' j ∧ ∃ b : Nat, b < 256 ∧ f j = nI b) := by
  sorry
