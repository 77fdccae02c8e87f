/-! Tokens that are known. -/
theorem wa0 : ∀ t ∈ wT0, okT t := by decide +kernel
theorem wa1 : ∀ t ∈ wT1, okT t := by decide +kernel
theorem wa2 : ∀ t ∈ wT2, okT t := by decide +kernel
theorem wa3 : ∀ t ∈ wT3, okT t := by decide +kernel
theorem wa4 : ∀ t ∈ wT4, okT t := by decide +kernel
theorem wa5 : ∀ t ∈ wT5, okT t := by decide +kernel
theorem wa6 : ∀ t ∈ wT6, okT t := by decide +kernel
theorem wa7 : ∀ t ∈ wT7, okT t := by decide +kernel
theorem wa8 : ∀ t ∈ wT8, okT t := by decide +kernel
theorem wa9 : ∀ t ∈ wT9, okT t := by decide +kernel
theorem wa10 : ∀ t ∈ wT10, okT t := by decide +kernel
theorem wa11 : ∀ t ∈ wT11, okT t := by decide +kernel
theorem wa12 : ∀ t ∈ wT12, okT t := by decide +kernel
theorem wa13 : ∀ t ∈ wT13, okT t := by decide +kernel
theorem wa14 : ∀ t ∈ wT14, okT t := by decide +kernel
theorem wa15 : ∀ t ∈ wT15, okT t := by decide +kernel
theorem wa16 : ∀ t ∈ wT16, okT t := by decide +kernel
theorem ok274 (v : Nat) : okT (274, v) := Or.inr (show (274 : Nat) < 300 by decide)
theorem ok1 : ∀ t ∈ [((278, 0) : Tk)], okT t := by decide +kernel
theorem okA {a b : List Tk} (h : ∀ t ∈ a, okT t) (h2 : ∀ t ∈ b, okT t) : ∀ t ∈ a ++ b, okT t := fun t ht => (List.mem_append.mp ht).elim (h t) (h2 t)
theorem okB {v : Nat} {b : List Tk} (h2 : ∀ t ∈ b, okT t) : ∀ t ∈ (274, v) :: b, okT t := fun t ht => by
  rcases List.mem_cons.mp ht with rfl | h
  · exact ok274 v
  · exact h2 t h
theorem toA_ok {an : Bool} {aa : Nat} {r : List Tk} (h : ∀ t ∈ r, okT t) : ∀ t ∈ toA an aa r, okT t := by
  cases an
  · exact okB h
  · exact okA wa3 (okB h)
theorem toG_ok {go : Option Nat} {r : List Tk} (h : ∀ t ∈ r, okT t) : ∀ t ∈ toG go r, okT t := by
  cases go
  · exact h
  · exact okA wa7 (okB (okA wa8 h))
theorem tok_ok (f n : Nat) (an : Bool) (aa b : Nat) (go : Option Nat) (p q bk r3 jp : Nat) : ∀ t ∈ tok f n an aa b go p q bk r3 jp ++ [(278, 0)], okT t :=
  okA (okA wa0 (okB (okA wa1 (okB (okA wa2 (toA_ok (okA wa5 (okB (okA wa6 (toG_ok (okA wa9 (okB (okA wa10 (okB (okA wa11 (okB (okA wa12 (okB (okA wa13 (okB (okA wa14 (okB (okA wa15 (okB wa16)))))))))))))))))))))))) ok1
