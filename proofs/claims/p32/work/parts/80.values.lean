/-! What the expressions of the law's program are worth. -/
theorem vM {a b n : Nat} (ha : a < 22) (hn : n < 22) : ∃ v, evS (lN a) (lN b) (cM n) [] = some [v] ∧ (v ≠ 0 → a < n) := by
  refine ⟨if lN a < lN n then 1 else 0, rfl, fun h => ?_⟩
  by_cases q : lN a < lN n
  · exact (lN_lt (by omega) (by omega)).mp q
  · rw [if_neg q] at h
    exact absurd rfl h
theorem vR {a b : Nat} (hb : b < 4) : ∃ v, evS (lN a) (lN b) cR [] = some [v] ∧ (v ≠ 0 → 0 < b) := by
  refine ⟨if lN 0 < lN b then 1 else 0, rfl, fun h => ?_⟩
  by_cases q : lN 0 < lN b
  · exact (lN_lt (by omega) (by omega)).mp q
  · rw [if_neg q] at h
    exact absurd rfl h
theorem vJ0 {a b jp : Nat} (ha : a < 22) (hj : jp < 22) : ∃ v, evS (lN a) (lN b) (cJ jp) [] = some [v] ∧ (v ≠ 0 → jp ≤ a) := by
  refine ⟨if (if lN a < lN jp then (0 : Int64) else 1) = 0 then 0 else if (if lN b = lN 1 then (0 : Int64) else 1) = 0 then 0 else 1, rfl, fun h => ?_⟩
  by_cases q : lN a < lN jp
  · rw [if_pos q, if_pos rfl] at h
    exact absurd rfl h
  · exact Nat.le_of_not_lt (fun e => q ((lN_lt (a := a) (b := jp) (by omega) (by omega)).mpr e))
theorem vZ (x y : Int64) (g : Nat) : ∃ v, evS x y (cZ g) [] = some [v] := ⟨_, rfl⟩
theorem vH (x y : Int64) : ∃ v, evS x y cH [] = some [v] := ⟨_, rfl⟩
theorem vW (x y : Int64) : ∃ v, evS x y cW [] = some [v] := ⟨_, rfl⟩
theorem vG (x y : Int64) (an : Bool) (aa b : Nat) : ∃ v, evS x y (cG an aa b) [] = some [v] := by
  cases an <;> exact ⟨_, rfl⟩
theorem s_1 (a b : Nat) : evS (lN a) (lN b) cM1 [] = some [lN (a + 1)] := by
  rw [← lN_1]
  rfl
theorem s_2t : ∀ b, b < 4 → bn 270 (lN b + lN 1) (lN 3) = lN (if b + 1 < 3 then b + 1 else 3) := by decide +kernel
theorem s_2 {a b : Nat} (hb : b < 4) : evS (lN a) (lN b) cM2 [] = some [lN (if b + 1 < 3 then b + 1 else 3)] := by
  rw [← s_2t b hb]
  rfl
theorem s_3t : ∀ a, a < 22 → ∀ k, k < 6 → bn 271 (lN a - lN k) (lN 0) = lN (a - k) := by decide +kernel
theorem s_3 {a b k : Nat} (ha : a < 22) (hk : k < 6) : evS (lN a) (lN b) (cM3 k) [] = some [lN (a - k)] := by
  rw [← s_3t a ha k hk]
  rfl
theorem s_4t : ∀ b, b < 4 → 0 < b → lN b - lN 1 = lN (b - 1) := by decide +kernel
theorem s_4 {a b : Nat} (hb : b < 4) (h0 : 0 < b) : evS (lN a) (lN b) cR1 [] = some [lN (b - 1)] := by
  rw [← s_4t b hb h0]
  rfl
theorem s_5t : ∀ a, a < 22 → ∀ k, k < 22 → k ≤ a → lN a - lN k = lN (a - k) := by decide +kernel
theorem s_5 {a b k : Nat} (ha : a < 22) (hk : k < 22) (h : k ≤ a) : evS (lN a) (lN b) (cJ1 k) [] = some [lN (a - k)] := by
  rw [← s_5t a ha k hk h]
  rfl
theorem s_6t : ∀ a, a < 22 → bn 37 (lN a) (lN 4) = lN (a % 4) := by decide +kernel
theorem s_6 {a b : Nat} (ha : a < 22) : evS (lN a) (lN b) cJ2 [] = some [lN (a % 4)] := by
  rw [← s_6t a ha]
  rfl
theorem s_7 (x y : Int64) : evS x y cJ3 [] = some [lN 3] := rfl
