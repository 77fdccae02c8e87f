/-! Operators between two numbers: both sides answer the same. -/
def cOp (o : Nat) : Int32 := [274, 273, 43, 45, 42, 47, 37, 61, 277, 60, 62, 275, 276, 267, 268, 270, 271, 269, 280, 272].getD o 0
def mOp (o : Nat) : Int32 := [0, 1, 10, 11, 12, 13, 14, 20, 21, 22, 23, 24, 25, 30, 31, 32, 33, 40, 41, 42].getD o 0
abbrev XL : Type := List (Nat × Int64)
/-- heights: an expression begins with h numbers on the pile and ends with h' -/
theorem e_bin2 (a b : Int64) (σ τ : Sta) : ∃ v, f_X0_binary 43 a b σ = some (v, σ) ∧ f_X10_two 10 a b τ = some (v, τ) := by
  unfold f_X0_binary f_X10_two
  rw [if_neg (show ¬ (43 : Int32) = 37 by decide), if_neg (show ¬ (43 : Int32) = 42 by decide), if_pos (show (43 : Int32) = 43 from rfl), if_pos (show (10 : Int32) = 10 from rfl)]
  exact ⟨_, rfl, rfl⟩
theorem e_bin3 (a b : Int64) (σ τ : Sta) : ∃ v, f_X0_binary 45 a b σ = some (v, σ) ∧ f_X10_two 11 a b τ = some (v, τ) := by
  unfold f_X0_binary f_X10_two
  rw [if_neg (show ¬ (45 : Int32) = 37 by decide), if_neg (show ¬ (45 : Int32) = 42 by decide), if_neg (show ¬ (45 : Int32) = 43 by decide), if_pos (show (45 : Int32) = 45 from rfl), if_neg (show ¬ (11 : Int32) = 10 by decide), if_pos (show (11 : Int32) = 11 from rfl)]
  exact ⟨_, rfl, rfl⟩
theorem e_bin4 (a b : Int64) (σ τ : Sta) : ∃ v, f_X0_binary 42 a b σ = some (v, σ) ∧ f_X10_two 12 a b τ = some (v, τ) := by
  unfold f_X0_binary f_X10_two
  rw [if_neg (show ¬ (42 : Int32) = 37 by decide), if_pos (show (42 : Int32) = 42 from rfl), if_neg (show ¬ (12 : Int32) = 10 by decide), if_neg (show ¬ (12 : Int32) = 11 by decide), if_pos (show (12 : Int32) = 12 from rfl)]
  exact ⟨_, rfl, rfl⟩
theorem e_bin5 (a b : Int64) (σ τ : Sta) : ∃ v, f_X0_binary 47 a b σ = some (v, σ) ∧ f_X10_two 13 a b τ = some (v, τ) := by
  unfold f_X0_binary f_X10_two
  rw [if_neg (show ¬ (47 : Int32) = 37 by decide), if_neg (show ¬ (47 : Int32) = 42 by decide), if_neg (show ¬ (47 : Int32) = 43 by decide), if_neg (show ¬ (47 : Int32) = 45 by decide), if_pos (show (47 : Int32) = 47 from rfl), if_neg (show ¬ (13 : Int32) = 10 by decide), if_neg (show ¬ (13 : Int32) = 11 by decide), if_neg (show ¬ (13 : Int32) = 12 by decide), if_pos (show (13 : Int32) = 13 from rfl)]
  by_cases h : b = 0
  · rw [if_pos ((lg_cmp_eq b 0).mpr h), if_pos ((lg_cmp_eq b 0).mpr h)]; exact ⟨_, rfl, rfl⟩
  · rw [if_neg (fun e => h ((lg_cmp_eq b 0).mp e)), if_neg h, if_neg (fun e => h ((lg_cmp_eq b 0).mp e)), if_neg h]; exact ⟨_, rfl, rfl⟩
theorem e_bin6 (a b : Int64) (σ τ : Sta) : ∃ v, f_X0_binary 37 a b σ = some (v, σ) ∧ f_X10_two 14 a b τ = some (v, τ) := by
  unfold f_X0_binary f_X10_two
  rw [if_pos (show (37 : Int32) = 37 from rfl), if_neg (show ¬ (14 : Int32) = 10 by decide), if_neg (show ¬ (14 : Int32) = 11 by decide), if_neg (show ¬ (14 : Int32) = 12 by decide), if_neg (show ¬ (14 : Int32) = 13 by decide), if_pos (show (14 : Int32) = 14 from rfl)]
  by_cases h : b = 0
  · rw [if_pos ((lg_cmp_eq b 0).mpr h), if_pos ((lg_cmp_eq b 0).mpr h)]; exact ⟨_, rfl, rfl⟩
  · rw [if_neg (fun e => h ((lg_cmp_eq b 0).mp e)), if_neg h, if_neg (fun e => h ((lg_cmp_eq b 0).mp e)), if_neg h]; exact ⟨_, rfl, rfl⟩
theorem e_bin7 (a b : Int64) (σ τ : Sta) : ∃ v, f_X0_binary 61 a b σ = some (v, σ) ∧ f_X10_two 20 a b τ = some (v, τ) := by
  unfold f_X0_binary f_X10_two
  rw [if_neg (show ¬ (61 : Int32) = 37 by decide), if_neg (show ¬ (61 : Int32) = 42 by decide), if_neg (show ¬ (61 : Int32) = 43 by decide), if_neg (show ¬ (61 : Int32) = 45 by decide), if_neg (show ¬ (61 : Int32) = 47 by decide), if_neg (show ¬ (61 : Int32) = 267 by decide), if_neg (show ¬ (61 : Int32) = 268 by decide), if_neg (show ¬ (61 : Int32) = 270 by decide), if_neg (show ¬ (61 : Int32) = 271 by decide), if_neg (show ¬ (20 : Int32) = 10 by decide), if_neg (show ¬ (20 : Int32) = 11 by decide), if_neg (show ¬ (20 : Int32) = 12 by decide), if_neg (show ¬ (20 : Int32) = 13 by decide), if_neg (show ¬ (20 : Int32) = 14 by decide), if_neg (show ¬ (20 : Int32) = 15 by decide), if_neg (show ¬ (20 : Int32) = 16 by decide), if_neg (show ¬ (20 : Int32) = 17 by decide), if_neg (show ¬ (20 : Int32) = 18 by decide), if_neg (show ¬ (20 : Int32) = 19 by decide), if_pos (show (20 : Int32) = 20 from rfl)]
  unfold f_X0_isRelated f_X0_isRelated_63
  rw [if_neg (show ¬ (61 : Int32) = 60 by decide), if_pos (show (61 : Int32) = 61 from rfl)]
  by_cases h : lg_cmp a b = 0
  · rw [if_pos h, if_pos h, if_neg (by decide), bnd_s, ite10]; exact ⟨_, rfl, rfl⟩
  · rw [if_neg h, if_neg h, if_neg (by decide), bnd_s, ite00]; exact ⟨_, rfl, rfl⟩
theorem e_bin8 (a b : Int64) (σ τ : Sta) : ∃ v, f_X0_binary 277 a b σ = some (v, σ) ∧ f_X10_two 21 a b τ = some (v, τ) := by
  unfold f_X0_binary f_X10_two
  rw [if_neg (show ¬ (277 : Int32) = 37 by decide), if_neg (show ¬ (277 : Int32) = 42 by decide), if_neg (show ¬ (277 : Int32) = 43 by decide), if_neg (show ¬ (277 : Int32) = 45 by decide), if_neg (show ¬ (277 : Int32) = 47 by decide), if_neg (show ¬ (277 : Int32) = 267 by decide), if_neg (show ¬ (277 : Int32) = 268 by decide), if_neg (show ¬ (277 : Int32) = 270 by decide), if_neg (show ¬ (277 : Int32) = 271 by decide), if_neg (show ¬ (21 : Int32) = 10 by decide), if_neg (show ¬ (21 : Int32) = 11 by decide), if_neg (show ¬ (21 : Int32) = 12 by decide), if_neg (show ¬ (21 : Int32) = 13 by decide), if_neg (show ¬ (21 : Int32) = 14 by decide), if_neg (show ¬ (21 : Int32) = 15 by decide), if_neg (show ¬ (21 : Int32) = 16 by decide), if_neg (show ¬ (21 : Int32) = 17 by decide), if_neg (show ¬ (21 : Int32) = 18 by decide), if_neg (show ¬ (21 : Int32) = 19 by decide), if_neg (show ¬ (21 : Int32) = 20 by decide), if_pos (show (21 : Int32) = 21 from rfl)]
  unfold f_X0_isRelated f_X0_isRelated_75
  rw [if_neg (show ¬ (277 : Int32) = 60 by decide), if_neg (show ¬ (277 : Int32) = 61 by decide), if_neg (show ¬ (277 : Int32) = 62 by decide), if_neg (show ¬ (277 : Int32) = 275 by decide), if_pos (show (277 : Int32) = 277 from rfl)]
  by_cases h : lg_cmp a b = 0
  · rw [if_pos h, if_pos h, if_neg (by decide), bnd_s, ite00]; exact ⟨_, rfl, rfl⟩
  · rw [if_neg h, if_neg h, if_neg (by decide), bnd_s, ite10]; exact ⟨_, rfl, rfl⟩
theorem e_bin9 (a b : Int64) (σ τ : Sta) : ∃ v, f_X0_binary 60 a b σ = some (v, σ) ∧ f_X10_two 22 a b τ = some (v, τ) := by
  unfold f_X0_binary f_X10_two
  rw [if_neg (show ¬ (60 : Int32) = 37 by decide), if_neg (show ¬ (60 : Int32) = 42 by decide), if_neg (show ¬ (60 : Int32) = 43 by decide), if_neg (show ¬ (60 : Int32) = 45 by decide), if_neg (show ¬ (60 : Int32) = 47 by decide), if_neg (show ¬ (60 : Int32) = 267 by decide), if_neg (show ¬ (60 : Int32) = 268 by decide), if_neg (show ¬ (60 : Int32) = 270 by decide), if_neg (show ¬ (60 : Int32) = 271 by decide), if_neg (show ¬ (22 : Int32) = 10 by decide), if_neg (show ¬ (22 : Int32) = 11 by decide), if_neg (show ¬ (22 : Int32) = 12 by decide), if_neg (show ¬ (22 : Int32) = 13 by decide), if_neg (show ¬ (22 : Int32) = 14 by decide), if_neg (show ¬ (22 : Int32) = 15 by decide), if_neg (show ¬ (22 : Int32) = 16 by decide), if_neg (show ¬ (22 : Int32) = 17 by decide), if_neg (show ¬ (22 : Int32) = 18 by decide), if_neg (show ¬ (22 : Int32) = 19 by decide), if_neg (show ¬ (22 : Int32) = 20 by decide), if_neg (show ¬ (22 : Int32) = 21 by decide), if_pos (show (22 : Int32) = 22 from rfl)]
  unfold f_X0_isRelated f_X0_isRelated_87
  rw [if_pos (show (60 : Int32) = 60 from rfl)]
  by_cases h : 0 ≤ lg_cmp a b
  · rw [if_pos h, if_pos h, if_neg (by decide), bnd_s, ite00]; exact ⟨_, rfl, rfl⟩
  · rw [if_neg h, if_neg h, if_neg (by decide), bnd_s, ite10]; exact ⟨_, rfl, rfl⟩
theorem e_bin10 (a b : Int64) (σ τ : Sta) : ∃ v, f_X0_binary 62 a b σ = some (v, σ) ∧ f_X10_two 23 a b τ = some (v, τ) := by
  unfold f_X0_binary f_X10_two
  rw [if_neg (show ¬ (62 : Int32) = 37 by decide), if_neg (show ¬ (62 : Int32) = 42 by decide), if_neg (show ¬ (62 : Int32) = 43 by decide), if_neg (show ¬ (62 : Int32) = 45 by decide), if_neg (show ¬ (62 : Int32) = 47 by decide), if_neg (show ¬ (62 : Int32) = 267 by decide), if_neg (show ¬ (62 : Int32) = 268 by decide), if_neg (show ¬ (62 : Int32) = 270 by decide), if_neg (show ¬ (62 : Int32) = 271 by decide), if_neg (show ¬ (23 : Int32) = 10 by decide), if_neg (show ¬ (23 : Int32) = 11 by decide), if_neg (show ¬ (23 : Int32) = 12 by decide), if_neg (show ¬ (23 : Int32) = 13 by decide), if_neg (show ¬ (23 : Int32) = 14 by decide), if_neg (show ¬ (23 : Int32) = 15 by decide), if_neg (show ¬ (23 : Int32) = 16 by decide), if_neg (show ¬ (23 : Int32) = 17 by decide), if_neg (show ¬ (23 : Int32) = 18 by decide), if_neg (show ¬ (23 : Int32) = 19 by decide), if_neg (show ¬ (23 : Int32) = 20 by decide), if_neg (show ¬ (23 : Int32) = 21 by decide), if_neg (show ¬ (23 : Int32) = 22 by decide), if_pos (show (23 : Int32) = 23 from rfl)]
  unfold f_X0_isRelated f_X0_isRelated_99
  rw [if_neg (show ¬ (62 : Int32) = 60 by decide), if_neg (show ¬ (62 : Int32) = 61 by decide), if_pos (show (62 : Int32) = 62 from rfl)]
  by_cases h : lg_cmp a b ≤ 0
  · rw [if_pos h, if_pos h, if_neg (by decide), bnd_s, ite00]; exact ⟨_, rfl, rfl⟩
  · rw [if_neg h, if_neg h, if_neg (by decide), bnd_s, ite10]; exact ⟨_, rfl, rfl⟩
theorem e_bin11 (a b : Int64) (σ τ : Sta) : ∃ v, f_X0_binary 275 a b σ = some (v, σ) ∧ f_X10_two 24 a b τ = some (v, τ) := by
  unfold f_X0_binary f_X10_two
  rw [if_neg (show ¬ (275 : Int32) = 37 by decide), if_neg (show ¬ (275 : Int32) = 42 by decide), if_neg (show ¬ (275 : Int32) = 43 by decide), if_neg (show ¬ (275 : Int32) = 45 by decide), if_neg (show ¬ (275 : Int32) = 47 by decide), if_neg (show ¬ (275 : Int32) = 267 by decide), if_neg (show ¬ (275 : Int32) = 268 by decide), if_neg (show ¬ (275 : Int32) = 270 by decide), if_neg (show ¬ (275 : Int32) = 271 by decide), if_neg (show ¬ (24 : Int32) = 10 by decide), if_neg (show ¬ (24 : Int32) = 11 by decide), if_neg (show ¬ (24 : Int32) = 12 by decide), if_neg (show ¬ (24 : Int32) = 13 by decide), if_neg (show ¬ (24 : Int32) = 14 by decide), if_neg (show ¬ (24 : Int32) = 15 by decide), if_neg (show ¬ (24 : Int32) = 16 by decide), if_neg (show ¬ (24 : Int32) = 17 by decide), if_neg (show ¬ (24 : Int32) = 18 by decide), if_neg (show ¬ (24 : Int32) = 19 by decide), if_neg (show ¬ (24 : Int32) = 20 by decide), if_neg (show ¬ (24 : Int32) = 21 by decide), if_neg (show ¬ (24 : Int32) = 22 by decide), if_neg (show ¬ (24 : Int32) = 23 by decide), if_pos (show (24 : Int32) = 24 from rfl)]
  unfold f_X0_isRelated f_X0_isRelated_111
  rw [if_neg (show ¬ (275 : Int32) = 60 by decide), if_neg (show ¬ (275 : Int32) = 61 by decide), if_neg (show ¬ (275 : Int32) = 62 by decide), if_pos (show (275 : Int32) = 275 from rfl)]
  by_cases h : 0 < lg_cmp a b
  · rw [if_pos h, if_pos h, if_neg (by decide), bnd_s, ite00]; exact ⟨_, rfl, rfl⟩
  · rw [if_neg h, if_neg h, if_neg (by decide), bnd_s, ite10]; exact ⟨_, rfl, rfl⟩
theorem e_bin12 (a b : Int64) (σ τ : Sta) : ∃ v, f_X0_binary 276 a b σ = some (v, σ) ∧ f_X10_two 25 a b τ = some (v, τ) := by
  unfold f_X0_binary f_X10_two
  rw [if_neg (show ¬ (276 : Int32) = 37 by decide), if_neg (show ¬ (276 : Int32) = 42 by decide), if_neg (show ¬ (276 : Int32) = 43 by decide), if_neg (show ¬ (276 : Int32) = 45 by decide), if_neg (show ¬ (276 : Int32) = 47 by decide), if_neg (show ¬ (276 : Int32) = 267 by decide), if_neg (show ¬ (276 : Int32) = 268 by decide), if_neg (show ¬ (276 : Int32) = 270 by decide), if_neg (show ¬ (276 : Int32) = 271 by decide), if_neg (show ¬ (25 : Int32) = 10 by decide), if_neg (show ¬ (25 : Int32) = 11 by decide), if_neg (show ¬ (25 : Int32) = 12 by decide), if_neg (show ¬ (25 : Int32) = 13 by decide), if_neg (show ¬ (25 : Int32) = 14 by decide), if_neg (show ¬ (25 : Int32) = 15 by decide), if_neg (show ¬ (25 : Int32) = 16 by decide), if_neg (show ¬ (25 : Int32) = 17 by decide), if_neg (show ¬ (25 : Int32) = 18 by decide), if_neg (show ¬ (25 : Int32) = 19 by decide), if_neg (show ¬ (25 : Int32) = 20 by decide), if_neg (show ¬ (25 : Int32) = 21 by decide), if_neg (show ¬ (25 : Int32) = 22 by decide), if_neg (show ¬ (25 : Int32) = 23 by decide), if_neg (show ¬ (25 : Int32) = 24 by decide), if_pos (show (25 : Int32) = 25 from rfl)]
  unfold f_X0_isRelated f_X0_isRelated_123
  rw [if_neg (show ¬ (276 : Int32) = 60 by decide), if_neg (show ¬ (276 : Int32) = 61 by decide), if_neg (show ¬ (276 : Int32) = 62 by decide), if_neg (show ¬ (276 : Int32) = 275 by decide), if_neg (show ¬ (276 : Int32) = 277 by decide)]
  by_cases h : lg_cmp a b < 0
  · rw [if_pos h, if_pos h, if_neg (by decide), bnd_s, ite00]; exact ⟨_, rfl, rfl⟩
  · rw [if_neg h, if_neg h, if_neg (by decide), bnd_s, ite10]; exact ⟨_, rfl, rfl⟩
theorem e_bin13 (a b : Int64) (σ τ : Sta) : ∃ v, f_X0_binary 267 a b σ = some (v, σ) ∧ f_X10_two 30 a b τ = some (v, τ) := by
  unfold f_X0_binary f_X10_two
  rw [if_neg (show ¬ (267 : Int32) = 37 by decide), if_neg (show ¬ (267 : Int32) = 42 by decide), if_neg (show ¬ (267 : Int32) = 43 by decide), if_neg (show ¬ (267 : Int32) = 45 by decide), if_neg (show ¬ (267 : Int32) = 47 by decide), if_pos (show (267 : Int32) = 267 from rfl), if_neg (show ¬ (30 : Int32) = 10 by decide), if_neg (show ¬ (30 : Int32) = 11 by decide), if_neg (show ¬ (30 : Int32) = 12 by decide), if_neg (show ¬ (30 : Int32) = 13 by decide), if_neg (show ¬ (30 : Int32) = 14 by decide), if_neg (show ¬ (30 : Int32) = 15 by decide), if_neg (show ¬ (30 : Int32) = 16 by decide), if_neg (show ¬ (30 : Int32) = 17 by decide), if_neg (show ¬ (30 : Int32) = 18 by decide), if_neg (show ¬ (30 : Int32) = 19 by decide), if_neg (show ¬ (30 : Int32) = 20 by decide), if_neg (show ¬ (30 : Int32) = 21 by decide), if_neg (show ¬ (30 : Int32) = 22 by decide), if_neg (show ¬ (30 : Int32) = 23 by decide), if_neg (show ¬ (30 : Int32) = 24 by decide), if_neg (show ¬ (30 : Int32) = 25 by decide), if_neg (show ¬ (30 : Int32) = 26 by decide), if_neg (show ¬ (30 : Int32) = 27 by decide), if_neg (show ¬ (30 : Int32) = 28 by decide), if_neg (show ¬ (30 : Int32) = 29 by decide), if_pos (show (30 : Int32) = 30 from rfl)]
  by_cases h : lg_cmp a 0 = 0
  · rw [if_pos h, if_pos h]; exact ⟨_, rfl, rfl⟩
  · rw [if_neg h, if_neg h]
    by_cases h2 : lg_cmp b 0 = 0
    · rw [if_pos h2, if_pos h2]; exact ⟨_, rfl, rfl⟩
    · rw [if_neg h2, if_neg h2]; exact ⟨_, rfl, rfl⟩
theorem e_bin14 (a b : Int64) (σ τ : Sta) : ∃ v, f_X0_binary 268 a b σ = some (v, σ) ∧ f_X10_two 31 a b τ = some (v, τ) := by
  unfold f_X0_binary f_X10_two
  rw [if_neg (show ¬ (268 : Int32) = 37 by decide), if_neg (show ¬ (268 : Int32) = 42 by decide), if_neg (show ¬ (268 : Int32) = 43 by decide), if_neg (show ¬ (268 : Int32) = 45 by decide), if_neg (show ¬ (268 : Int32) = 47 by decide), if_neg (show ¬ (268 : Int32) = 267 by decide), if_pos (show (268 : Int32) = 268 from rfl), if_neg (show ¬ (31 : Int32) = 10 by decide), if_neg (show ¬ (31 : Int32) = 11 by decide), if_neg (show ¬ (31 : Int32) = 12 by decide), if_neg (show ¬ (31 : Int32) = 13 by decide), if_neg (show ¬ (31 : Int32) = 14 by decide), if_neg (show ¬ (31 : Int32) = 15 by decide), if_neg (show ¬ (31 : Int32) = 16 by decide), if_neg (show ¬ (31 : Int32) = 17 by decide), if_neg (show ¬ (31 : Int32) = 18 by decide), if_neg (show ¬ (31 : Int32) = 19 by decide), if_neg (show ¬ (31 : Int32) = 20 by decide), if_neg (show ¬ (31 : Int32) = 21 by decide), if_neg (show ¬ (31 : Int32) = 22 by decide), if_neg (show ¬ (31 : Int32) = 23 by decide), if_neg (show ¬ (31 : Int32) = 24 by decide), if_neg (show ¬ (31 : Int32) = 25 by decide), if_neg (show ¬ (31 : Int32) = 26 by decide), if_neg (show ¬ (31 : Int32) = 27 by decide), if_neg (show ¬ (31 : Int32) = 28 by decide), if_neg (show ¬ (31 : Int32) = 29 by decide), if_neg (show ¬ (31 : Int32) = 30 by decide), if_pos (show (31 : Int32) = 31 from rfl)]
  by_cases h : lg_cmp a 0 = 0
  · rw [if_pos h, if_pos h]
    by_cases h2 : lg_cmp b 0 = 0
    · rw [if_pos h2, if_pos h2]; exact ⟨_, rfl, rfl⟩
    · rw [if_neg h2, if_neg h2]; exact ⟨_, rfl, rfl⟩
  · rw [if_neg h, if_neg h]
    exact ⟨_, rfl, rfl⟩
theorem e_bin15 (a b : Int64) (σ τ : Sta) : ∃ v, f_X0_binary 270 a b σ = some (v, σ) ∧ f_X10_two 32 a b τ = some (v, τ) := by
  unfold f_X0_binary f_X10_two
  rw [if_neg (show ¬ (270 : Int32) = 37 by decide), if_neg (show ¬ (270 : Int32) = 42 by decide), if_neg (show ¬ (270 : Int32) = 43 by decide), if_neg (show ¬ (270 : Int32) = 45 by decide), if_neg (show ¬ (270 : Int32) = 47 by decide), if_neg (show ¬ (270 : Int32) = 267 by decide), if_neg (show ¬ (270 : Int32) = 268 by decide), if_pos (show (270 : Int32) = 270 from rfl), if_neg (show ¬ (32 : Int32) = 10 by decide), if_neg (show ¬ (32 : Int32) = 11 by decide), if_neg (show ¬ (32 : Int32) = 12 by decide), if_neg (show ¬ (32 : Int32) = 13 by decide), if_neg (show ¬ (32 : Int32) = 14 by decide), if_neg (show ¬ (32 : Int32) = 15 by decide), if_neg (show ¬ (32 : Int32) = 16 by decide), if_neg (show ¬ (32 : Int32) = 17 by decide), if_neg (show ¬ (32 : Int32) = 18 by decide), if_neg (show ¬ (32 : Int32) = 19 by decide), if_neg (show ¬ (32 : Int32) = 20 by decide), if_neg (show ¬ (32 : Int32) = 21 by decide), if_neg (show ¬ (32 : Int32) = 22 by decide), if_neg (show ¬ (32 : Int32) = 23 by decide), if_neg (show ¬ (32 : Int32) = 24 by decide), if_neg (show ¬ (32 : Int32) = 25 by decide), if_neg (show ¬ (32 : Int32) = 26 by decide), if_neg (show ¬ (32 : Int32) = 27 by decide), if_neg (show ¬ (32 : Int32) = 28 by decide), if_neg (show ¬ (32 : Int32) = 29 by decide), if_neg (show ¬ (32 : Int32) = 30 by decide), if_neg (show ¬ (32 : Int32) = 31 by decide), if_pos (show (32 : Int32) = 32 from rfl)]
  exact ⟨_, rfl, rfl⟩
theorem e_bin16 (a b : Int64) (σ τ : Sta) : ∃ v, f_X0_binary 271 a b σ = some (v, σ) ∧ f_X10_two 33 a b τ = some (v, τ) := by
  unfold f_X0_binary f_X10_two
  rw [if_neg (show ¬ (271 : Int32) = 37 by decide), if_neg (show ¬ (271 : Int32) = 42 by decide), if_neg (show ¬ (271 : Int32) = 43 by decide), if_neg (show ¬ (271 : Int32) = 45 by decide), if_neg (show ¬ (271 : Int32) = 47 by decide), if_neg (show ¬ (271 : Int32) = 267 by decide), if_neg (show ¬ (271 : Int32) = 268 by decide), if_neg (show ¬ (271 : Int32) = 270 by decide), if_pos (show (271 : Int32) = 271 from rfl), if_neg (show ¬ (33 : Int32) = 10 by decide), if_neg (show ¬ (33 : Int32) = 11 by decide), if_neg (show ¬ (33 : Int32) = 12 by decide), if_neg (show ¬ (33 : Int32) = 13 by decide), if_neg (show ¬ (33 : Int32) = 14 by decide), if_neg (show ¬ (33 : Int32) = 15 by decide), if_neg (show ¬ (33 : Int32) = 16 by decide), if_neg (show ¬ (33 : Int32) = 17 by decide), if_neg (show ¬ (33 : Int32) = 18 by decide), if_neg (show ¬ (33 : Int32) = 19 by decide), if_neg (show ¬ (33 : Int32) = 20 by decide), if_neg (show ¬ (33 : Int32) = 21 by decide), if_neg (show ¬ (33 : Int32) = 22 by decide), if_neg (show ¬ (33 : Int32) = 23 by decide), if_neg (show ¬ (33 : Int32) = 24 by decide), if_neg (show ¬ (33 : Int32) = 25 by decide), if_neg (show ¬ (33 : Int32) = 26 by decide), if_neg (show ¬ (33 : Int32) = 27 by decide), if_neg (show ¬ (33 : Int32) = 28 by decide), if_neg (show ¬ (33 : Int32) = 29 by decide), if_neg (show ¬ (33 : Int32) = 30 by decide), if_neg (show ¬ (33 : Int32) = 31 by decide), if_neg (show ¬ (33 : Int32) = 32 by decide)]
  exact ⟨_, rfl, rfl⟩
theorem e_bin {o : Nat} (h1 : 2 ≤ o) (h2 : o < 17) (a b : Int64) (σ τ : Sta) : ∃ v, f_X0_binary (cOp o) a b σ = some (v, σ) ∧ f_X10_two (mOp o) a b τ = some (v, τ) := by
  match o, h1, h2 with
  | 2, _, _ => exact e_bin2 a b σ τ
  | 3, _, _ => exact e_bin3 a b σ τ
  | 4, _, _ => exact e_bin4 a b σ τ
  | 5, _, _ => exact e_bin5 a b σ τ
  | 6, _, _ => exact e_bin6 a b σ τ
  | 7, _, _ => exact e_bin7 a b σ τ
  | 8, _, _ => exact e_bin8 a b σ τ
  | 9, _, _ => exact e_bin9 a b σ τ
  | 10, _, _ => exact e_bin10 a b σ τ
  | 11, _, _ => exact e_bin11 a b σ τ
  | 12, _, _ => exact e_bin12 a b σ τ
  | 13, _, _ => exact e_bin13 a b σ τ
  | 14, _, _ => exact e_bin14 a b σ τ
  | 15, _, _ => exact e_bin15 a b σ τ
  | 16, _, _ => exact e_bin16 a b σ τ
  | n + 17, _, h => exact absurd h (by omega)
