/-! Reckoning lists of codes. -/
def bop (k : Nat) : Prop := k = 37 ∨ k = 42 ∨ k = 43 ∨ k = 45 ∨ k = 60 ∨ k = 61 ∨ k = 62 ∨ k = 267 ∨ k = 270 ∨ k = 271 ∨ k = 276 ∨ k = 277
def bn (k : Nat) (l r : Int64) : Int64 := if k = 37 then (if r = 0 then 0 else l - l / r * r) else if k = 42 then l * r else if k = 43 then l + r else if k = 45 then l - r else if k = 60 then (if l < r then 1 else 0) else if k = 61 then (if l = r then 1 else 0) else if k = 62 then (if r < l then 1 else 0) else if k = 267 then (if l = 0 then 0 else if r = 0 then 0 else 1) else if k = 270 then (if r < l then r else l) else if k = 271 then (if r < l then l else r) else if k = 276 then (if l < r then 0 else 1) else (if l = r then 0 else 1)
def un (k : Nat) (v : Int64) : Int64 := if k = 280 then -v else if 0 < v then v else -v
theorem rel_fin {s : Int32} (hs : s = 0 ∨ s = 1) {X : Option (Int32 × Sta)} {σ : Sta} (hX : X = some (s, σ)) : (bnd X (fun r18 σ19 => if r18 = 0 then f_X0_binary_186 0 σ19 else f_X0_binary_186 1 σ19)) = some (if s = 0 then (0 : Int64) else 1, σ) := by
  rw [hX, bnd_s]
  rcases hs with rfl | rfl
  · rfl
  · rfl
theorem z_ne {a : Int32} (h : a = 0 ∨ a = 1) : ¬ ¬ (a = 0 ∨ a = 1) := fun e => e h
theorem e_bin {k : Nat} (h : bop k) (l r : Int64) (σ : Sta) : f_X0_binary (nI k) l r σ = some (bn k l r, σ) := by
  unfold f_X0_binary f_X0_binary_109 f_X0_binary_123 f_X0_binary_152 f_X0_binary_153 f_X0_binary_166 f_X0_binary_171
  rcases h with rfl | rfl | rfl | rfl | rfl | rfl | rfl | rfl | rfl | rfl | rfl | rfl
  · rw [if_pos (by decide)]
    show _ = some (if r = 0 then (0 : Int64) else l - l / r * r, σ)
    by_cases q : r = 0
    · rw [if_pos ((lg_cmp_eq _ _).mpr q), if_pos q]
    · rw [if_neg (fun e => q ((lg_cmp_eq _ _).mp e)), if_neg q, if_neg q]
  · rw [if_neg (by decide), if_pos (by decide)]
    rfl
  · rw [if_neg (by decide), if_neg (by decide), if_pos (by decide)]
    rfl
  · rw [if_neg (by decide), if_neg (by decide), if_neg (by decide), if_pos (by decide)]
    rfl
  · iterate 9 rw [if_neg (by decide)]
    unfold f_X0_isRelated f_X0_isRelated_87
    rw [if_pos (by decide)]
    by_cases q : l < r
    · rw [if_neg (fun e => Int64.not_le.mpr q ((lg_cmp_ge _ _).mp e)), if_neg (z_ne (Or.inr rfl)), bnd_s]
      show _ = some (if l < r then (1 : Int64) else 0, σ)
      rw [if_pos q]
      rfl
    · rw [if_pos ((lg_cmp_ge _ _).mpr (Int64.not_lt.mp q)), if_neg (z_ne (Or.inl rfl)), bnd_s]
      show _ = some (if l < r then (1 : Int64) else 0, σ)
      rw [if_neg q]
      rfl
  · iterate 9 rw [if_neg (by decide)]
    unfold f_X0_isRelated f_X0_isRelated_63
    rw [if_neg (by decide), if_pos (by decide)]
    by_cases q : l = r
    · rw [if_pos ((lg_cmp_eq _ _).mpr q), if_neg (z_ne (Or.inr rfl)), bnd_s]
      show _ = some (if l = r then (1 : Int64) else 0, σ)
      rw [if_pos q]
      rfl
    · rw [if_neg (fun e => q ((lg_cmp_eq _ _).mp e)), if_neg (z_ne (Or.inl rfl)), bnd_s]
      show _ = some (if l = r then (1 : Int64) else 0, σ)
      rw [if_neg q]
      rfl
  · iterate 9 rw [if_neg (by decide)]
    unfold f_X0_isRelated f_X0_isRelated_99
    rw [if_neg (by decide), if_neg (by decide), if_pos (by decide)]
    by_cases q : r < l
    · rw [if_neg (fun e => Int64.not_le.mpr q ((lg_cmp_le _ _).mp e)), if_neg (z_ne (Or.inr rfl)), bnd_s]
      show _ = some (if r < l then (1 : Int64) else 0, σ)
      rw [if_pos q]
      rfl
    · rw [if_pos ((lg_cmp_le _ _).mpr (Int64.not_lt.mp q)), if_neg (z_ne (Or.inl rfl)), bnd_s]
      show _ = some (if r < l then (1 : Int64) else 0, σ)
      rw [if_neg q]
      rfl
  · rw [if_neg (by decide), if_neg (by decide), if_neg (by decide), if_neg (by decide), if_neg (by decide), if_pos (by decide)]
    show _ = some (if l = 0 then (0 : Int64) else if r = 0 then 0 else 1, σ)
    by_cases q : l = 0
    · rw [if_pos ((lg_cmp_eq _ _).mpr q), if_pos q]
    · rw [if_neg (fun e => q ((lg_cmp_eq _ _).mp e)), if_neg q]
      by_cases q2 : r = 0
      · rw [if_pos ((lg_cmp_eq _ _).mpr q2), if_pos q2]
      · rw [if_neg (fun e => q2 ((lg_cmp_eq _ _).mp e)), if_neg q2]
  · iterate 7 rw [if_neg (by decide)]
    rw [if_pos (by decide)]
    rfl
  · iterate 8 rw [if_neg (by decide)]
    rw [if_pos (by decide)]
    rfl
  · iterate 9 rw [if_neg (by decide)]
    unfold f_X0_isRelated f_X0_isRelated_123
    iterate 5 rw [if_neg (by decide)]
    by_cases q : l < r
    · rw [if_pos ((lg_cmp_lt _ _).mpr q), if_neg (z_ne (Or.inl rfl)), bnd_s]
      show _ = some (if l < r then (0 : Int64) else 1, σ)
      rw [if_pos q]
      rfl
    · rw [if_neg (fun e => q ((lg_cmp_lt _ _).mp e)), if_neg (z_ne (Or.inr rfl)), bnd_s]
      show _ = some (if l < r then (0 : Int64) else 1, σ)
      rw [if_neg q]
      rfl
  · iterate 9 rw [if_neg (by decide)]
    unfold f_X0_isRelated f_X0_isRelated_75
    iterate 4 rw [if_neg (by decide)]
    rw [if_pos (by decide)]
    by_cases q : l = r
    · rw [if_pos ((lg_cmp_eq _ _).mpr q), if_neg (z_ne (Or.inl rfl)), bnd_s]
      show _ = some (if l = r then (0 : Int64) else 1, σ)
      rw [if_pos q]
      rfl
    · rw [if_neg (fun e => q ((lg_cmp_eq _ _).mp e)), if_neg (z_ne (Or.inr rfl)), bnd_s]
      show _ = some (if l = r then (0 : Int64) else 1, σ)
      rw [if_neg q]
      rfl
theorem e_un {k : Nat} (h : k = 280 ∨ k = 272) (v : Int64) (σ : Sta) : f_X0_unary (nI k) v σ = some (un k v, σ) := by
  unfold f_X0_unary
  rcases h with rfl | rfl
  · rw [if_pos (by decide)]
    rfl
  · rw [if_neg (by decide), if_neg (by decide)]
    rfl
theorem e_isUn {k : Nat} (h : k = 280 ∨ k = 272) (σ : Sta) : f_X0_isUnary (nI k) σ = some (1, σ) := by
  unfold f_X0_isUnary f_X0_isUnary_21 f_X0_isUnary_26
  rcases h with rfl | rfl
  · rw [if_pos (by decide), if_neg (z_ne (Or.inr rfl))]
  · rw [if_neg (by decide), if_neg (by decide), if_pos (by decide), if_neg (z_ne (Or.inr rfl))]
theorem e_isBn {k : Nat} (h : bop k) (σ : Sta) : f_X0_isUnary (nI k) σ = some (0, σ) := by
  unfold f_X0_isUnary f_X0_isUnary_26
  rcases h with rfl | rfl | rfl | rfl | rfl | rfl | rfl | rfl | rfl | rfl | rfl | rfl <;>
  rw [if_neg (by decide), if_neg (by decide), if_neg (by decide), if_neg (z_ne (Or.inl rfl))]
